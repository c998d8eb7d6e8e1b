set_option maxRecDepth 100000 in
theorem st0 {E : zE} (hE : E.1 < 2147483648) {B : Nat} (hsm : bSO E ctb B (7, smT)) : bMT E ctb (B + 1000000 * (0 + 1)) 1 sc0 := bMTof hE hsm ke0 (fun N hN => absurd hN List.not_mem_nil)
set_option maxRecDepth 100000 in
theorem st1 {E : zE} (hE : E.1 < 2147483648) {B : Nat} (hsm : bSO E ctb B (25, smT)) : bMT E ctb (B + 1000000 * (0 + 1)) 2 sc1 := bMTof hE hsm ke1 (fun N hN => absurd hN List.not_mem_nil)
set_option maxRecDepth 100000 in
theorem st2 {E : zE} (hE : E.1 < 2147483648) {B : Nat} (hsm : bSO E ctb B (5, smT)) : bMT E ctb (B + 1000000 * (0 + 1)) 3 sc2 := bMTof hE hsm ke2 (fun N hN => absurd hN List.not_mem_nil)
set_option maxRecDepth 100000 in
theorem st3 {E : zE} (hE : E.1 < 2147483648) {B : Nat} (hsm : bSO E ctb B (2, smT)) : bMT E ctb (B + 1000000 * (0 + 1)) 4 sc3 := bMTof hE hsm ke3 (fun N hN => absurd hN List.not_mem_nil)
set_option maxRecDepth 100000 in
theorem st4 {E : zE} (hE : E.1 < 2147483648) {B : Nat} (hsm : bSO E ctb B (2, smT)) : bMT E ctb (B + 1000000 * (0 + 1)) 5 sc4 := bMTof hE hsm ke4 (fun N hN => absurd hN List.not_mem_nil)
set_option maxRecDepth 100000 in
theorem st5 {E : zE} (hE : E.1 < 2147483648) {B : Nat} (hsm : bSO E ctb B (2, smT)) : bMT E ctb (B + 1000000 * (0 + 1)) 6 sc5 := bMTof hE hsm ke5 (fun N hN => absurd hN List.not_mem_nil)
set_option maxRecDepth 100000 in
theorem st6 {E : zE} (hE : E.1 < 2147483648) {B : Nat} (hsm : bSO E ctb B (2, smT)) : bMT E ctb (B + 1000000 * (0 + 1)) 7 sc6 := bMTof hE hsm ke6 (fun N hN => absurd hN List.not_mem_nil)
set_option maxRecDepth 100000 in
theorem st7 {E : zE} (hE : E.1 < 2147483648) {B : Nat} (hsm : bSO E ctb B (4, smT)) : bMT E ctb (B + 1000000 * (0 + 1)) 8 sc7 := bMTof hE hsm ke7 (fun N hN => absurd hN List.not_mem_nil)
set_option maxRecDepth 100000 in
theorem st8 {E : zE} (hE : E.1 < 2147483648) {B : Nat} (hsm : bSO E ctb B (5, smT)) : bMT E ctb (B + 1000000 * (0 + 1)) 9 sc8 := bMTof hE hsm ke8 (fun N hN => absurd hN List.not_mem_nil)
set_option maxRecDepth 100000 in
theorem st9 {E : zE} (hE : E.1 < 2147483648) {B : Nat} (hsm : bSO E ctb B (5, smT)) : bMT E ctb (B + 1000000 * (0 + 1)) 10 sc9 := bMTof hE hsm ke9 (fun N hN => absurd hN List.not_mem_nil)
set_option maxRecDepth 100000 in
theorem st10 {E : zE} (hE : E.1 < 2147483648) {B : Nat} (hsm : bSO E ctb B (5, smT)) : bMT E ctb (B + 1000000 * (0 + 1)) 11 sc10 := bMTof hE hsm ke10 (fun N hN => absurd hN List.not_mem_nil)
set_option maxRecDepth 100000 in
theorem st11 {E : zE} (hE : E.1 < 2147483648) {B : Nat} (hsm : bSO E ctb B (5, smT)) : bMT E ctb (B + 1000000 * (0 + 1)) 12 sc11 := bMTof hE hsm ke11 (fun N hN => absurd hN List.not_mem_nil)
set_option maxRecDepth 100000 in
theorem st12 {E : zE} (hE : E.1 < 2147483648) {B : Nat} (hsm : bSO E ctb B (5, smT)) : bMT E ctb (B + 1000000 * (0 + 1)) 13 sc12 := bMTof hE hsm ke12 (fun N hN => absurd hN List.not_mem_nil)
set_option maxRecDepth 100000 in
theorem st13 {E : zE} (hE : E.1 < 2147483648) {B : Nat} (hsm : bSO E ctb B (5, smT)) : bMT E ctb (B + 1000000 * (0 + 1)) 14 sc13 := bMTof hE hsm ke13 (fun N hN => absurd hN List.not_mem_nil)
set_option maxRecDepth 100000 in
theorem st14 {E : zE} (hE : E.1 < 2147483648) {B : Nat} (hsm : bSO E ctb B (7, smT)) : bMT E ctb (B + 1000000 * (0 + 1)) 15 sc14 := bMTof hE hsm ke14 (fun N hN => absurd hN List.not_mem_nil)
set_option maxRecDepth 100000 in
theorem st15 {E : zE} (hE : E.1 < 2147483648) {B : Nat} (hsm : bSO E ctb B (7, smT)) : bMT E ctb (B + 1000000 * (0 + 1)) 16 sc15 := bMTof hE hsm ke15 (fun N hN => absurd hN List.not_mem_nil)
set_option maxRecDepth 100000 in
theorem st16 {E : zE} (hE : E.1 < 2147483648) {B : Nat} (hsm : bSO E ctb B (7, smT)) : bMT E ctb (B + 1000000 * (0 + 1)) 17 sc16 := bMTof hE hsm ke16 (fun N hN => absurd hN List.not_mem_nil)
set_option maxRecDepth 100000 in
theorem st17 {E : zE} (hE : E.1 < 2147483648) {B : Nat} (hsm : bSO E ctb B (7, smT)) : bMT E ctb (B + 1000000 * (0 + 1)) 18 sc17 := bMTof hE hsm ke17 (fun N hN => absurd hN List.not_mem_nil)
set_option maxRecDepth 100000 in
theorem st18 {E : zE} (hE : E.1 < 2147483648) {B : Nat} (hsm : bSO E ctb B (7, smT)) : bMT E ctb (B + 1000000 * (0 + 1)) 19 sc18 := bMTof hE hsm ke18 (fun N hN => absurd hN List.not_mem_nil)
set_option maxRecDepth 100000 in
theorem st19 {E : zE} (hE : E.1 < 2147483648) {B : Nat} (hsm : bSO E ctb B (6, smT)) : bMT E ctb (B + 1000000 * (0 + 1)) 20 sc19 := bMTof hE hsm ke19 (fun N hN => absurd hN List.not_mem_nil)
set_option maxRecDepth 100000 in
theorem st20 {E : zE} (hE : E.1 < 2147483648) {B : Nat} (hsm : bSO E ctb B (8, smT)) : bMT E ctb (B + 1000000 * (0 + 1)) 21 sc20 := bMTof hE hsm ke20 (fun N hN => absurd hN List.not_mem_nil)
set_option maxRecDepth 100000 in
theorem st21 {E : zE} (hE : E.1 < 2147483648) {B : Nat} (hsm : bSO E ctb B (6, smT)) : bMT E ctb (B + 1000000 * (0 + 1)) 22 sc21 := bMTof hE hsm ke21 (fun N hN => absurd hN List.not_mem_nil)
set_option maxRecDepth 100000 in
theorem st22 {E : zE} (hE : E.1 < 2147483648) {B : Nat} (hsm : bSO E ctb B (7, smT)) : bMT E ctb (B + 1000000 * (0 + 1)) 23 sc22 := bMTof hE hsm ke22 (fun N hN => absurd hN List.not_mem_nil)
set_option maxRecDepth 100000 in
theorem st23 {E : zE} (hE : E.1 < 2147483648) {B : Nat} (hsm : bSO E ctb B (7, smT)) : bMT E ctb (B + 1000000 * (0 + 1)) 24 sc23 := bMTof hE hsm ke23 (fun N hN => absurd hN List.not_mem_nil)
set_option maxRecDepth 100000 in
theorem st24 {E : zE} (hE : E.1 < 2147483648) {B : Nat} (hsm : bSO E ctb B (7, smT)) : bMT E ctb (B + 1000000 * (0 + 1)) 25 sc24 := bMTof hE hsm ke24 (fun N hN => absurd hN List.not_mem_nil)
set_option maxRecDepth 100000 in
theorem st25 {E : zE} (hE : E.1 < 2147483648) {B : Nat} (hsm : bSO E ctb B (8, smT)) : bMT E ctb (B + 1000000 * (0 + 1)) 26 sc25 := bMTof hE hsm ke25 (fun N hN => absurd hN List.not_mem_nil)
set_option maxRecDepth 100000 in
theorem st26 {E : zE} (hE : E.1 < 2147483648) {B : Nat} (hsm : bSO E ctb B (7, smT)) : bMT E ctb (B + 1000000 * (0 + 1)) 27 sc26 := bMTof hE hsm ke26 (fun N hN => absurd hN List.not_mem_nil)
set_option maxRecDepth 100000 in
theorem st27 {E : zE} (hE : E.1 < 2147483648) {B : Nat} (hsm : bSO E ctb B (7, smT)) : bMT E ctb (B + 1000000 * (0 + 1)) 28 sc27 := bMTof hE hsm ke27 (fun N hN => absurd hN List.not_mem_nil)
set_option maxRecDepth 100000 in
theorem st28 {E : zE} (hE : E.1 < 2147483648) {B : Nat} (hsm : bSO E ctb B (2, smT)) : bMT E ctb (B + 1000000 * (0 + 1)) 29 sc28 := bMTof hE hsm ke28 (fun N hN => absurd hN List.not_mem_nil)
set_option maxRecDepth 100000 in
theorem st29 {E : zE} (hE : E.1 < 2147483648) {B : Nat} (hsm : bSO E ctb B (2, smT)) : bMT E ctb (B + 1000000 * (0 + 1)) 30 sc29 := bMTof hE hsm ke29 (fun N hN => absurd hN List.not_mem_nil)
set_option maxRecDepth 100000 in
theorem st30 {E : zE} (hE : E.1 < 2147483648) {B : Nat} (hsm : bSO E ctb B (2, smT)) : bMT E ctb (B + 1000000 * (0 + 1)) 31 sc30 := bMTof hE hsm ke30 (fun N hN => absurd hN List.not_mem_nil)
set_option maxRecDepth 100000 in
theorem st31 {E : zE} (hE : E.1 < 2147483648) {B : Nat} (hsm : bSO E ctb B (3, smT)) : bMT E ctb (B + 1000000 * (0 + 1)) 32 sc31 := bMTof hE hsm ke31 (fun N hN => absurd hN List.not_mem_nil)
set_option maxRecDepth 100000 in
theorem st32 {E : zE} (hE : E.1 < 2147483648) {B : Nat} (hsm : bSO E ctb B (2, smT)) : bMT E ctb (B + 1000000 * (0 + 1)) 33 sc32 := bMTof hE hsm ke32 (fun N hN => absurd hN List.not_mem_nil)
set_option maxRecDepth 100000 in
theorem st33 {E : zE} (hE : E.1 < 2147483648) {B : Nat} (hsm : bSO E ctb B (4, smT)) : bMT E ctb (B + 1000000 * (0 + 1)) 34 sc33 := bMTof hE hsm ke33 (fun N hN => absurd hN List.not_mem_nil)
set_option maxRecDepth 100000 in
theorem st34 {E : zE} (hE : E.1 < 2147483648) {B : Nat} (hsm : bSO E ctb B (4, smT)) : bMT E ctb (B + 1000000 * (0 + 1)) 35 sc34 := bMTof hE hsm ke34 (fun N hN => absurd hN List.not_mem_nil)
set_option maxRecDepth 100000 in
theorem st35 {E : zE} (hE : E.1 < 2147483648) {B : Nat} (hsm : bSO E ctb B (3, smT)) : bMT E ctb (B + 1000000 * (0 + 1)) 36 sc35 := bMTof hE hsm ke35 (fun N hN => absurd hN List.not_mem_nil)
set_option maxRecDepth 100000 in
theorem st36 {E : zE} (hE : E.1 < 2147483648) {B : Nat} (hsm : bSO E ctb B (4, smT)) : bMT E ctb (B + 1000000 * (0 + 1)) 37 sc36 := bMTof hE hsm ke36 (fun N hN => absurd hN List.not_mem_nil)
set_option maxRecDepth 100000 in
theorem st37 {E : zE} (hE : E.1 < 2147483648) {B : Nat} (hsm : bSO E ctb B (0, smT)) : bMT E ctb (B + 1000000 * (0 + 1)) 43 sc37 := bMTof hE hsm ke37 (fun N hN => absurd hN List.not_mem_nil)
set_option maxRecDepth 100000 in
theorem st38 {E : zE} (hE : E.1 < 2147483648) {B : Nat} (hsm : bSO E ctb B (5, smT)) : bMT E ctb (B + 1000000 * (0 + 1)) 64 sc38 := bMTof hE hsm ke38 (fun N hN => absurd hN List.not_mem_nil)
set_option maxRecDepth 100000 in
theorem st39 {E : zE} (hE : E.1 < 2147483648) {B : Nat} (hsm : bSO E ctb B (1, smT)) : bMT E ctb (B + 1000000 * (0 + 1)) 74 sc39 := bMTof hE hsm ke39 (fun N hN => absurd hN List.not_mem_nil)
set_option maxRecDepth 100000 in
theorem st40 {E : zE} (hE : E.1 < 2147483648) {B : Nat} (hsm : bSO E ctb B (3, smT)) : bMT E ctb (B + 1000000 * (14 + 1)) 79 sc40 := bMTof hE hsm ke40 (fun N hN => by
  cases hN with
  | head => exact bkn_s hE hsm kn40_0
  | tail _ hN =>
    exact absurd hN List.not_mem_nil)
set_option maxRecDepth 100000 in
theorem st41 {E : zE} (hE : E.1 < 2147483648) {B : Nat} (hsm : bSO E ctb B (0, smT)) : bMT E ctb (B + 1000000 * (0 + 1)) 82 sc41 := bMTof hE hsm ke41 (fun N hN => absurd hN List.not_mem_nil)
set_option maxRecDepth 100000 in
theorem st42 {E : zE} (hE : E.1 < 2147483648) {B : Nat} (hsm : bSO E ctb B (4, smT)) : bMT E ctb (B + 1000000 * (0 + 1)) 83 sc42 := bMTof hE hsm ke42 (fun N hN => absurd hN List.not_mem_nil)
set_option maxRecDepth 100000 in
theorem st43 {E : zE} (hE : E.1 < 2147483648) {B : Nat} (hsm : bSO E ctb B (2, smT)) : bMT E ctb (B + 1000000 * (0 + 1)) 84 sc43 := bMTof hE hsm ke43 (fun N hN => absurd hN List.not_mem_nil)
set_option maxRecDepth 100000 in
theorem st44 {E : zE} (hE : E.1 < 2147483648) {B : Nat} (hsm : bSO E ctb B (2, smT)) : bMT E ctb (B + 1000000 * (0 + 1)) 85 sc44 := bMTof hE hsm ke44 (fun N hN => absurd hN List.not_mem_nil)
set_option maxRecDepth 100000 in
theorem st45 {E : zE} (hE : E.1 < 2147483648) {B : Nat} (hsm : bSO E ctb B (2, smT)) : bMT E ctb (B + 1000000 * (0 + 1)) 86 sc45 := bMTof hE hsm ke45 (fun N hN => absurd hN List.not_mem_nil)
set_option maxRecDepth 100000 in
theorem st46 {E : zE} (hE : E.1 < 2147483648) {B : Nat} (hsm : bSO E ctb B (0, smT)) : bMT E ctb (B + 1000000 * (98 + 1)) 92 sc46 := bMTof hE hsm ke46 (fun N hN => by
  cases hN with
  | head => exact bkn_s hE hsm kn46_0
  | tail _ hN =>
    exact absurd hN List.not_mem_nil)
set_option maxRecDepth 100000 in
theorem st47 {E : zE} (hE : E.1 < 2147483648) {B : Nat} (hsm : bSO E ctb B (0, smT)) : bMT E ctb (B + 1000000 * (98 + 1)) 92 sc47 := bMTof hE hsm ke47 (fun N hN => by
  cases hN with
  | head => exact bkn_s hE hsm kn47_0
  | tail _ hN =>
    exact absurd hN List.not_mem_nil)
set_option maxRecDepth 100000 in
theorem st48 {E : zE} (hE : E.1 < 2147483648) {B : Nat} (hsm : bSO E ctb B (0, smT)) : bMT E ctb (B + 1000000 * (66 + 1)) 93 sc48 := bMTof hE hsm ke48 (fun N hN => by
  cases hN with
  | head => exact bkn_s hE hsm kn48_0
  | tail _ hN =>
    exact absurd hN List.not_mem_nil)
set_option maxRecDepth 100000 in
theorem st49 {E : zE} (hE : E.1 < 2147483648) {B : Nat} (hsm : bSO E ctb B (0, smT)) : bMT E ctb (B + 1000000 * (66 + 1)) 93 sc49 := bMTof hE hsm ke49 (fun N hN => by
  cases hN with
  | head => exact bkn_s hE hsm kn49_0
  | tail _ hN =>
    exact absurd hN List.not_mem_nil)
set_option maxRecDepth 100000 in
theorem st50 {E : zE} (hE : E.1 < 2147483648) {B : Nat} (hsm : bSO E ctb B (0, smT)) : bMT E ctb (B + 1000000 * (66 + 1)) 93 sc50 := bMTof hE hsm ke50 (fun N hN => by
  cases hN with
  | head => exact bkn_s hE hsm kn50_0
  | tail _ hN =>
    exact absurd hN List.not_mem_nil)
set_option maxRecDepth 100000 in
theorem st51 {E : zE} (hE : E.1 < 2147483648) {B : Nat} (hsm : bSO E ctb B (1, smT)) : bMT E ctb (B + 1000000 * (14 + 1)) 94 sc51 := bMTof hE hsm ke51 (fun N hN => by
  cases hN with
  | head => exact bkn_s hE hsm kn51_0
  | tail _ hN =>
    exact absurd hN List.not_mem_nil)
set_option maxRecDepth 100000 in
theorem st52 {E : zE} (hE : E.1 < 2147483648) {B : Nat} (hsm : bSO E ctb B (1, smT)) : bMT E ctb (B + 1000000 * (10 + 1)) 95 sc52 := bMTof hE hsm ke52 (fun N hN => by
  cases hN with
  | head => exact bkn_s hE hsm kn52_0
  | tail _ hN =>
    exact absurd hN List.not_mem_nil)
set_option maxRecDepth 100000 in
theorem st53 {E : zE} (hE : E.1 < 2147483648) {B : Nat} (hsm : bSO E ctb B (1, smT)) : bMT E ctb (B + 1000000 * (10 + 1)) 95 sc53 := bMTof hE hsm ke53 (fun N hN => by
  cases hN with
  | head => exact bkn_s hE hsm kn53_0
  | tail _ hN =>
    exact absurd hN List.not_mem_nil)
set_option maxRecDepth 100000 in
theorem st54 {E : zE} (hE : E.1 < 2147483648) {B : Nat} (hsm : bSO E ctb B (1, smT)) : bMT E ctb (B + 1000000 * (10 + 1)) 100 sc54 := bMTof hE hsm ke54 (fun N hN => by
  cases hN with
  | head => exact bkn_s hE hsm kn54_0
  | tail _ hN =>
    exact absurd hN List.not_mem_nil)
set_option maxRecDepth 100000 in
theorem st55 {E : zE} (hE : E.1 < 2147483648) {B : Nat} (hsm : bSO E ctb B (1, smT)) : bMT E ctb (B + 1000000 * (10 + 1)) 100 sc55 := bMTof hE hsm ke55 (fun N hN => by
  cases hN with
  | head => exact bkn_s hE hsm kn55_0
  | tail _ hN =>
    exact absurd hN List.not_mem_nil)
set_option maxRecDepth 100000 in
theorem st56 {E : zE} (hE : E.1 < 2147483648) {B : Nat} (hsm : bSO E ctb B (1, smT)) : bMT E ctb (B + 1000000 * (10 + 1)) 102 sc56 := bMTof hE hsm ke56 (fun N hN => by
  cases hN with
  | head => exact bkn_s hE hsm kn56_0
  | tail _ hN =>
    exact absurd hN List.not_mem_nil)
set_option maxRecDepth 100000 in
theorem st57 {E : zE} (hE : E.1 < 2147483648) {B : Nat} (hsm : bSO E ctb B (1, smT)) : bMT E ctb (B + 1000000 * (10 + 1)) 102 sc57 := bMTof hE hsm ke57 (fun N hN => by
  cases hN with
  | head => exact bkn_s hE hsm kn57_0
  | tail _ hN =>
    exact absurd hN List.not_mem_nil)
set_option maxRecDepth 100000 in
theorem st58 {E : zE} (hE : E.1 < 2147483648) {B : Nat} (hsm : bSO E ctb B (1, smT)) : bMT E ctb (B + 1000000 * (10 + 1)) 103 sc58 := bMTof hE hsm ke58 (fun N hN => by
  cases hN with
  | head => exact bkn_s hE hsm kn58_0
  | tail _ hN =>
    exact absurd hN List.not_mem_nil)
set_option maxRecDepth 100000 in
theorem st59 {E : zE} (hE : E.1 < 2147483648) {B : Nat} (hsm : bSO E ctb B (1, smT)) : bMT E ctb (B + 1000000 * (10 + 1)) 103 sc59 := bMTof hE hsm ke59 (fun N hN => by
  cases hN with
  | head => exact bkn_s hE hsm kn59_0
  | tail _ hN =>
    exact absurd hN List.not_mem_nil)
set_option maxRecDepth 100000 in
theorem st60 {E : zE} (hE : E.1 < 2147483648) {B : Nat} (hsm : bSO E ctb B (1, smT)) : bMT E ctb (B + 1000000 * (19 + 1)) 104 sc60 := bMTof hE hsm ke60 (fun N hN => by
  cases hN with
  | head => exact bkn_s hE hsm kn60_0
  | tail _ hN =>
    cases hN with
    | head => exact bkn_s hE hsm kn60_1
    | tail _ hN =>
      exact absurd hN List.not_mem_nil)
set_option maxRecDepth 100000 in
theorem st61 {E : zE} (hE : E.1 < 2147483648) {B : Nat} (hsm : bSO E ctb B (1, smT)) : bMT E ctb (B + 1000000 * (19 + 1)) 104 sc61 := bMTof hE hsm ke61 (fun N hN => by
  cases hN with
  | head => exact bkn_s hE hsm kn61_0
  | tail _ hN =>
    cases hN with
    | head => exact bkn_s hE hsm kn61_1
    | tail _ hN =>
      exact absurd hN List.not_mem_nil)
set_option maxRecDepth 100000 in
theorem st62 {E : zE} (hE : E.1 < 2147483648) {B : Nat} (hsm : bSO E ctb B (0, smT)) : bMT E ctb (B + 1000000 * (10 + 1)) 105 sc62 := bMTof hE hsm ke62 (fun N hN => by
  cases hN with
  | head => exact bkn_s hE hsm kn62_0
  | tail _ hN =>
    exact absurd hN List.not_mem_nil)
set_option maxRecDepth 100000 in
theorem st63 {E : zE} (hE : E.1 < 2147483648) {B : Nat} (hsm : bSO E ctb B (0, smT)) : bMT E ctb (B + 1000000 * (10 + 1)) 105 sc63 := bMTof hE hsm ke63 (fun N hN => by
  cases hN with
  | head => exact bkn_s hE hsm kn63_0
  | tail _ hN =>
    exact absurd hN List.not_mem_nil)
set_option maxRecDepth 100000 in
theorem st64 {E : zE} (hE : E.1 < 2147483648) {B : Nat} (hsm : bSO E ctb B (0, smT)) : bMT E ctb (B + 1000000 * (10 + 1)) 106 sc64 := bMTof hE hsm ke64 (fun N hN => by
  cases hN with
  | head => exact bkn_s hE hsm kn64_0
  | tail _ hN =>
    exact absurd hN List.not_mem_nil)
set_option maxRecDepth 100000 in
theorem st65 {E : zE} (hE : E.1 < 2147483648) {B : Nat} (hsm : bSO E ctb B (2, smT)) : bMT E ctb (B + 1000000 * (82 + 1)) 111 sc65 := bMTof hE hsm ke65 (fun N hN => by
  cases hN with
  | head => exact bkn_s hE hsm kn65_0
  | tail _ hN =>
    exact absurd hN List.not_mem_nil)
set_option maxRecDepth 100000 in
theorem st66 {E : zE} (hE : E.1 < 2147483648) {B : Nat} (hsm : bSO E ctb B (2, smT)) : bMT E ctb (B + 1000000 * (82 + 1)) 112 sc66 := bMTof hE hsm ke66 (fun N hN => by
  cases hN with
  | head => exact bkn_s hE hsm kn66_0
  | tail _ hN =>
    exact absurd hN List.not_mem_nil)
set_option maxRecDepth 100000 in
theorem st67 {E : zE} (hE : E.1 < 2147483648) {B : Nat} (hsm : bSO E ctb B (1, smT)) : bMT E ctb (B + 1000000 * (7 + 1)) 114 sc67 := bMTof hE hsm ke67 (fun N hN => by
  cases hN with
  | head => exact bkn_s hE hsm kn67_0
  | tail _ hN =>
    exact absurd hN List.not_mem_nil)
set_option maxRecDepth 100000 in
theorem st68 {E : zE} (hE : E.1 < 2147483648) {B : Nat} (hsm : bSO E ctb B (1, smT)) : bMT E ctb (B + 1000000 * (7 + 1)) 114 sc68 := bMTof hE hsm ke68 (fun N hN => by
  cases hN with
  | head => exact bkn_s hE hsm kn68_0
  | tail _ hN =>
    exact absurd hN List.not_mem_nil)
set_option maxRecDepth 100000 in
theorem st69 {E : zE} (hE : E.1 < 2147483648) {B : Nat} (hsm : bSO E ctb B (3, smT)) : bMT E ctb (B + 1000000 * (23 + 1)) 117 sc69 := bMTof hE hsm ke69 (fun N hN => by
  cases hN with
  | head => exact bkn_s hE hsm kn69_0
  | tail _ hN =>
    cases hN with
    | head => exact bkn_s hE hsm kn69_1
    | tail _ hN =>
      exact absurd hN List.not_mem_nil)
set_option maxRecDepth 100000 in
theorem st70 {E : zE} (hE : E.1 < 2147483648) {B : Nat} (hsm : bSO E ctb B (3, smT)) : bMT E ctb (B + 1000000 * (23 + 1)) 117 sc70 := bMTof hE hsm ke70 (fun N hN => by
  cases hN with
  | head => exact bkn_s hE hsm kn70_0
  | tail _ hN =>
    cases hN with
    | head => exact bkn_s hE hsm kn70_1
    | tail _ hN =>
      exact absurd hN List.not_mem_nil)
set_option maxRecDepth 100000 in
theorem st71 {E : zE} (hE : E.1 < 2147483648) {B : Nat} (hsm : bSO E ctb B (4, smT)) : bMT E ctb (B + 1000000 * (14 + 1)) 120 sc71 := bMTof hE hsm ke71 (fun N hN => by
  cases hN with
  | head => exact bkn_s hE hsm kn71_0
  | tail _ hN =>
    exact absurd hN List.not_mem_nil)
set_option maxRecDepth 100000 in
theorem st72 {E : zE} (hE : E.1 < 2147483648) {B : Nat} (hsm : bSO E ctb B (1, smT)) : bMT E ctb (B + 1000000 * (14 + 1)) 121 sc72 := bMTof hE hsm ke72 (fun N hN => by
  cases hN with
  | head => exact bkn_s hE hsm kn72_0
  | tail _ hN =>
    exact absurd hN List.not_mem_nil)
set_option maxRecDepth 100000 in
theorem st73 {E : zE} (hE : E.1 < 2147483648) {B : Nat} (hsm : bSO E ctb B (1, smT)) : bMT E ctb (B + 1000000 * (14 + 1)) 122 sc73 := bMTof hE hsm ke73 (fun N hN => by
  cases hN with
  | head => exact bkn_s hE hsm kn73_0
  | tail _ hN =>
    exact absurd hN List.not_mem_nil)
set_option maxRecDepth 100000 in
theorem st74 {E : zE} (hE : E.1 < 2147483648) {B : Nat} (hsm : bSO E ctb B (1, smT)) : bMT E ctb (B + 1000000 * (14 + 1)) 122 sc74 := bMTof hE hsm ke74 (fun N hN => by
  cases hN with
  | head => exact bkn_s hE hsm kn74_0
  | tail _ hN =>
    exact absurd hN List.not_mem_nil)
set_option maxRecDepth 100000 in
theorem st75 {E : zE} (hE : E.1 < 2147483648) {B : Nat} (hsm : bSO E ctb B (0, smT)) : bMT E ctb (B + 1000000 * (127 + 1)) 123 sc75 := bMTof hE hsm ke75 (fun N hN => by
  cases hN with
  | head => exact bkn_s hE hsm kn75_0
  | tail _ hN =>
    cases hN with
    | head => exact bkn_s hE hsm kn75_1
    | tail _ hN =>
      exact absurd hN List.not_mem_nil)
set_option maxRecDepth 100000 in
theorem st76 {E : zE} (hE : E.1 < 2147483648) {B : Nat} (hsm : bSO E ctb B (1, smT)) : bMT E ctb (B + 1000000 * (14 + 1)) 124 sc76 := bMTof hE hsm ke76 (fun N hN => by
  cases hN with
  | head => exact bkn_s hE hsm kn76_0
  | tail _ hN =>
    exact absurd hN List.not_mem_nil)
set_option maxRecDepth 100000 in
theorem st77 {E : zE} (hE : E.1 < 2147483648) {B : Nat} (hsm : bSO E ctb B (2, smT)) : bMT E ctb (B + 1000000 * (10 + 1)) 126 sc77 := bMTof hE hsm ke77 (fun N hN => by
  cases hN with
  | head => exact bkn_s hE hsm kn77_0
  | tail _ hN =>
    exact absurd hN List.not_mem_nil)
set_option maxRecDepth 100000 in
theorem st78 {E : zE} (hE : E.1 < 2147483648) {B : Nat} (hsm : bSO E ctb B (2, smT)) : bMT E ctb (B + 1000000 * (147 + 1)) 127 sc78 := bMTof hE hsm ke78 (fun N hN => by
  cases hN with
  | head => exact bkn_s hE hsm kn78_0
  | tail _ hN =>
    exact absurd hN List.not_mem_nil)
set_option maxRecDepth 100000 in
theorem st79 {E : zE} (hE : E.1 < 2147483648) {B : Nat} (hsm : bSO E ctb B (5, smT)) : bMT E ctb (B + 1000000 * (16 + 1)) 129 sc79 := bMTof hE hsm ke79 (fun N hN => by
  cases hN with
  | head => exact bkn_s hE hsm kn79_0
  | tail _ hN =>
    cases hN with
    | head => exact bkn_s hE hsm kn79_1
    | tail _ hN =>
      cases hN with
      | head => exact bkn_s hE hsm kn79_2
      | tail _ hN =>
        cases hN with
        | head => exact bkn_s hE hsm kn79_3
        | tail _ hN =>
          cases hN with
          | head => exact bkn_s hE hsm kn79_4
          | tail _ hN =>
            exact absurd hN List.not_mem_nil)
set_option maxRecDepth 100000 in
theorem st80 {E : zE} (hE : E.1 < 2147483648) {B : Nat} (hsm : bSO E ctb B (1, smT)) : bMT E ctb (B + 1000000 * (0 + 1)) 131 sc80 := bMTof hE hsm ke80 (fun N hN => absurd hN List.not_mem_nil)
set_option maxRecDepth 100000 in
theorem st81 {E : zE} (hE : E.1 < 2147483648) {B : Nat} (hsm : bSO E ctb B (1, smT)) : bMT E ctb (B + 1000000 * (0 + 1)) 131 sc81 := bMTof hE hsm ke81 (fun N hN => absurd hN List.not_mem_nil)
set_option maxRecDepth 100000 in
theorem st82 {E : zE} (hE : E.1 < 2147483648) {B : Nat} (hsm : bSO E ctb B (4, smT)) : bMT E ctb (B + 1000000 * (0 + 1)) 131 sc82 := bMTof hE hsm ke82 (fun N hN => absurd hN List.not_mem_nil)
set_option maxRecDepth 100000 in
theorem st83 {E : zE} (hE : E.1 < 2147483648) {B : Nat} (hsm : bSO E ctb B (1, smT)) : bMT E ctb (B + 1000000 * (0 + 1)) 131 sc83 := bMTof hE hsm ke83 (fun N hN => absurd hN List.not_mem_nil)
set_option maxRecDepth 100000 in
theorem st84 {E : zE} (hE : E.1 < 2147483648) {B : Nat} (hsm : bSO E ctb B (1, smT)) : bMT E ctb (B + 1000000 * (0 + 1)) 131 sc84 := bMTof hE hsm ke84 (fun N hN => absurd hN List.not_mem_nil)
set_option maxRecDepth 100000 in
theorem st85 {E : zE} (hE : E.1 < 2147483648) {B : Nat} (hsm : bSO E ctb B (3, smT)) : bMT E ctb (B + 1000000 * (14 + 1)) 137 sc85 := bMTof hE hsm ke85 (fun N hN => by
  cases hN with
  | head => exact bkn_s hE hsm kn85_0
  | tail _ hN =>
    cases hN with
    | head => exact bkn_s hE hsm kn85_1
    | tail _ hN =>
      cases hN with
      | head => exact bkn_s hE hsm kn85_2
      | tail _ hN =>
        cases hN with
        | head => exact bkn_s hE hsm kn85_3
        | tail _ hN =>
          cases hN with
          | head => exact bkn_s hE hsm kn85_4
          | tail _ hN =>
            exact absurd hN List.not_mem_nil)
set_option maxRecDepth 100000 in
theorem st86 {E : zE} (hE : E.1 < 2147483648) {B : Nat} (hsm : bSO E ctb B (1, smT)) : bMT E ctb (B + 1000000 * (14 + 1)) 153 sc86 := bMTof hE hsm ke86 (fun N hN => by
  cases hN with
  | head => exact bkn_s hE hsm kn86_0
  | tail _ hN =>
    exact absurd hN List.not_mem_nil)
set_option maxRecDepth 100000 in
theorem st87 {E : zE} (hE : E.1 < 2147483648) {B : Nat} (hsm : bSO E ctb B (0, smT)) : bMT E ctb (B + 1000000 * (402 + 1)) 155 sc87 := bMTof hE hsm ke87 (fun N hN => by
  cases hN with
  | head => exact bkn_s hE hsm kn87_0
  | tail _ hN =>
    exact absurd hN List.not_mem_nil)
set_option maxRecDepth 100000 in
theorem st88 {E : zE} (hE : E.1 < 2147483648) {B : Nat} (hsm : bSO E ctb B (23, smT)) : bMT E ctb (B + 1000000 * (14 + 1)) 157 sc88 := bMTof hE hsm ke88 (fun N hN => by
  cases hN with
  | head => exact bkn_s hE hsm kn88_0
  | tail _ hN =>
    cases hN with
    | head => exact bkn_s hE hsm kn88_1
    | tail _ hN =>
      cases hN with
      | head => exact bkn_s hE hsm kn88_2
      | tail _ hN =>
        cases hN with
        | head => exact bkn_s hE hsm kn88_3
        | tail _ hN =>
          cases hN with
          | head => exact bkn_s hE hsm kn88_4
          | tail _ hN =>
            exact absurd hN List.not_mem_nil)
set_option maxRecDepth 100000 in
theorem st89 {E : zE} (hE : E.1 < 2147483648) {B : Nat} (hsm : bSO E ctb B (1, smT)) : bMT E ctb (B + 1000000 * (0 + 1)) 159 sc89 := bMTof hE hsm ke89 (fun N hN => absurd hN List.not_mem_nil)
set_option maxRecDepth 100000 in
theorem st90 {E : zE} (hE : E.1 < 2147483648) {B : Nat} (hsm : bSO E ctb B (1, smT)) : bMT E ctb (B + 1000000 * (0 + 1)) 159 sc90 := bMTof hE hsm ke90 (fun N hN => absurd hN List.not_mem_nil)
set_option maxRecDepth 100000 in
theorem st91 {E : zE} (hE : E.1 < 2147483648) {B : Nat} (hsm : bSO E ctb B (22, smT)) : bMT E ctb (B + 1000000 * (0 + 1)) 159 sc91 := bMTof hE hsm ke91 (fun N hN => absurd hN List.not_mem_nil)
set_option maxRecDepth 100000 in
theorem st92 {E : zE} (hE : E.1 < 2147483648) {B : Nat} (hsm : bSO E ctb B (1, smT)) : bMT E ctb (B + 1000000 * (0 + 1)) 159 sc92 := bMTof hE hsm ke92 (fun N hN => absurd hN List.not_mem_nil)
set_option maxRecDepth 100000 in
theorem st93 {E : zE} (hE : E.1 < 2147483648) {B : Nat} (hsm : bSO E ctb B (1, smT)) : bMT E ctb (B + 1000000 * (0 + 1)) 159 sc93 := bMTof hE hsm ke93 (fun N hN => absurd hN List.not_mem_nil)
set_option maxRecDepth 100000 in
theorem st94 {E : zE} (hE : E.1 < 2147483648) {B : Nat} (hsm : bSO E ctb B (3, smT)) : bMT E ctb (B + 1000000 * (2 + 1)) 160 sc94 := bMTof hE hsm ke94 (fun N hN => by
  cases hN with
  | head => exact bkn_s hE hsm kn94_0
  | tail _ hN =>
    exact absurd hN List.not_mem_nil)
set_option maxRecDepth 100000 in
theorem st95 {E : zE} (hE : E.1 < 2147483648) {B : Nat} (hsm : bSO E ctb B (3, smT)) : bMT E ctb (B + 1000000 * (2 + 1)) 160 sc95 := bMTof hE hsm ke95 (fun N hN => by
  cases hN with
  | head => exact bkn_s hE hsm kn95_0
  | tail _ hN =>
    exact absurd hN List.not_mem_nil)
set_option maxRecDepth 100000 in
theorem st96 {E : zE} (hE : E.1 < 2147483648) {B : Nat} (hsm : bSO E ctb B (21, smT)) : bMT E ctb (B + 1000000 * (402 + 1)) 160 sc96 := bMTof hE hsm ke96 (fun N hN => by
  cases hN with
  | head => exact bkn_s hE hsm kn96_0
  | tail _ hN =>
    cases hN with
    | head => exact bkn_s hE hsm kn96_1
    | tail _ hN =>
      cases hN with
      | head => exact bkn_s hE hsm kn96_2
      | tail _ hN =>
        cases hN with
        | head => exact bkn_s hE hsm kn96_3
        | tail _ hN =>
          cases hN with
          | head => exact bkn_s hE hsm kn96_4
          | tail _ hN =>
            exact absurd hN List.not_mem_nil)
set_option maxRecDepth 100000 in
theorem st97 {E : zE} (hE : E.1 < 2147483648) {B : Nat} (hsm : bSO E ctb B (21, smT)) : bMT E ctb (B + 1000000 * (402 + 1)) 160 sc97 := bMTof hE hsm ke97 (fun N hN => by
  cases hN with
  | head => exact bkn_s hE hsm kn97_0
  | tail _ hN =>
    cases hN with
    | head => exact bkn_s hE hsm kn97_1
    | tail _ hN =>
      cases hN with
      | head => exact bkn_s hE hsm kn97_2
      | tail _ hN =>
        cases hN with
        | head => exact bkn_s hE hsm kn97_3
        | tail _ hN =>
          cases hN with
          | head => exact bkn_s hE hsm kn97_4
          | tail _ hN =>
            exact absurd hN List.not_mem_nil)
set_option maxRecDepth 100000 in
theorem st98 {E : zE} (hE : E.1 < 2147483648) {B : Nat} (hsm : bSO E ctb B (21, smT)) : bMT E ctb (B + 1000000 * (402 + 1)) 160 sc98 := bMTof hE hsm ke98 (fun N hN => by
  cases hN with
  | head => exact bkn_s hE hsm kn98_0
  | tail _ hN =>
    cases hN with
    | head => exact bkn_s hE hsm kn98_1
    | tail _ hN =>
      cases hN with
      | head => exact bkn_s hE hsm kn98_2
      | tail _ hN =>
        cases hN with
        | head => exact bkn_s hE hsm kn98_3
        | tail _ hN =>
          cases hN with
          | head => exact bkn_s hE hsm kn98_4
          | tail _ hN =>
            exact absurd hN List.not_mem_nil)
set_option maxRecDepth 100000 in
theorem st99 {E : zE} (hE : E.1 < 2147483648) {B : Nat} (hsm : bSO E ctb B (3, smT)) : bMT E ctb (B + 1000000 * (2 + 1)) 160 sc99 := bMTof hE hsm ke99 (fun N hN => by
  cases hN with
  | head => exact bkn_s hE hsm kn99_0
  | tail _ hN =>
    exact absurd hN List.not_mem_nil)
set_option maxRecDepth 100000 in
theorem st100 {E : zE} (hE : E.1 < 2147483648) {B : Nat} (hsm : bSO E ctb B (3, smT)) : bMT E ctb (B + 1000000 * (2 + 1)) 160 sc100 := bMTof hE hsm ke100 (fun N hN => by
  cases hN with
  | head => exact bkn_s hE hsm kn100_0
  | tail _ hN =>
    exact absurd hN List.not_mem_nil)
set_option maxRecDepth 100000 in
theorem st101 {E : zE} (hE : E.1 < 2147483648) {B : Nat} (hsm : bSO E ctb B (18, smT)) : bMT E ctb (B + 1000000 * (402 + 1)) 160 sc101 := bMTof hE hsm ke101 (fun N hN => by
  cases hN with
  | head => exact bkn_s hE hsm kn101_0
  | tail _ hN =>
    cases hN with
    | head => exact bkn_s hE hsm kn101_1
    | tail _ hN =>
      cases hN with
      | head => exact bkn_s hE hsm kn101_2
      | tail _ hN =>
        cases hN with
        | head => exact bkn_s hE hsm kn101_3
        | tail _ hN =>
          cases hN with
          | head => exact bkn_s hE hsm kn101_4
          | tail _ hN =>
            exact absurd hN List.not_mem_nil)
set_option maxRecDepth 100000 in
theorem st102 {E : zE} (hE : E.1 < 2147483648) {B : Nat} (hsm : bSO E ctb B (18, smT)) : bMT E ctb (B + 1000000 * (402 + 1)) 160 sc102 := bMTof hE hsm ke102 (fun N hN => by
  cases hN with
  | head => exact bkn_s hE hsm kn102_0
  | tail _ hN =>
    cases hN with
    | head => exact bkn_s hE hsm kn102_1
    | tail _ hN =>
      cases hN with
      | head => exact bkn_s hE hsm kn102_2
      | tail _ hN =>
        cases hN with
        | head => exact bkn_s hE hsm kn102_3
        | tail _ hN =>
          cases hN with
          | head => exact bkn_s hE hsm kn102_4
          | tail _ hN =>
            exact absurd hN List.not_mem_nil)
set_option maxRecDepth 100000 in
theorem st103 {E : zE} (hE : E.1 < 2147483648) {B : Nat} (hsm : bSO E ctb B (18, smT)) : bMT E ctb (B + 1000000 * (402 + 1)) 160 sc103 := bMTof hE hsm ke103 (fun N hN => by
  cases hN with
  | head => exact bkn_s hE hsm kn103_0
  | tail _ hN =>
    cases hN with
    | head => exact bkn_s hE hsm kn103_1
    | tail _ hN =>
      cases hN with
      | head => exact bkn_s hE hsm kn103_2
      | tail _ hN =>
        cases hN with
        | head => exact bkn_s hE hsm kn103_3
        | tail _ hN =>
          cases hN with
          | head => exact bkn_s hE hsm kn103_4
          | tail _ hN =>
            exact absurd hN List.not_mem_nil)
set_option maxRecDepth 100000 in
theorem st104 {E : zE} (hE : E.1 < 2147483648) {B : Nat} (hsm : bSO E ctb B (3, smT)) : bMT E ctb (B + 1000000 * (2 + 1)) 160 sc104 := bMTof hE hsm ke104 (fun N hN => by
  cases hN with
  | head => exact bkn_s hE hsm kn104_0
  | tail _ hN =>
    exact absurd hN List.not_mem_nil)
set_option maxRecDepth 100000 in
theorem st105 {E : zE} (hE : E.1 < 2147483648) {B : Nat} (hsm : bSO E ctb B (3, smT)) : bMT E ctb (B + 1000000 * (2 + 1)) 160 sc105 := bMTof hE hsm ke105 (fun N hN => by
  cases hN with
  | head => exact bkn_s hE hsm kn105_0
  | tail _ hN =>
    exact absurd hN List.not_mem_nil)
set_option maxRecDepth 100000 in
theorem st106 {E : zE} (hE : E.1 < 2147483648) {B : Nat} (hsm : bSO E ctb B (15, smT)) : bMT E ctb (B + 1000000 * (402 + 1)) 160 sc106 := bMTof hE hsm ke106 (fun N hN => by
  cases hN with
  | head => exact bkn_s hE hsm kn106_0
  | tail _ hN =>
    cases hN with
    | head => exact bkn_s hE hsm kn106_1
    | tail _ hN =>
      cases hN with
      | head => exact bkn_s hE hsm kn106_2
      | tail _ hN =>
        cases hN with
        | head => exact bkn_s hE hsm kn106_3
        | tail _ hN =>
          cases hN with
          | head => exact bkn_s hE hsm kn106_4
          | tail _ hN =>
            exact absurd hN List.not_mem_nil)
set_option maxRecDepth 100000 in
theorem st107 {E : zE} (hE : E.1 < 2147483648) {B : Nat} (hsm : bSO E ctb B (15, smT)) : bMT E ctb (B + 1000000 * (402 + 1)) 160 sc107 := bMTof hE hsm ke107 (fun N hN => by
  cases hN with
  | head => exact bkn_s hE hsm kn107_0
  | tail _ hN =>
    cases hN with
    | head => exact bkn_s hE hsm kn107_1
    | tail _ hN =>
      cases hN with
      | head => exact bkn_s hE hsm kn107_2
      | tail _ hN =>
        cases hN with
        | head => exact bkn_s hE hsm kn107_3
        | tail _ hN =>
          cases hN with
          | head => exact bkn_s hE hsm kn107_4
          | tail _ hN =>
            exact absurd hN List.not_mem_nil)
set_option maxRecDepth 100000 in
theorem st108 {E : zE} (hE : E.1 < 2147483648) {B : Nat} (hsm : bSO E ctb B (15, smT)) : bMT E ctb (B + 1000000 * (402 + 1)) 160 sc108 := bMTof hE hsm ke108 (fun N hN => by
  cases hN with
  | head => exact bkn_s hE hsm kn108_0
  | tail _ hN =>
    cases hN with
    | head => exact bkn_s hE hsm kn108_1
    | tail _ hN =>
      cases hN with
      | head => exact bkn_s hE hsm kn108_2
      | tail _ hN =>
        cases hN with
        | head => exact bkn_s hE hsm kn108_3
        | tail _ hN =>
          cases hN with
          | head => exact bkn_s hE hsm kn108_4
          | tail _ hN =>
            exact absurd hN List.not_mem_nil)
set_option maxRecDepth 100000 in
theorem st109 {E : zE} (hE : E.1 < 2147483648) {B : Nat} (hsm : bSO E ctb B (3, smT)) : bMT E ctb (B + 1000000 * (2 + 1)) 160 sc109 := bMTof hE hsm ke109 (fun N hN => by
  cases hN with
  | head => exact bkn_s hE hsm kn109_0
  | tail _ hN =>
    exact absurd hN List.not_mem_nil)
set_option maxRecDepth 100000 in
theorem st110 {E : zE} (hE : E.1 < 2147483648) {B : Nat} (hsm : bSO E ctb B (3, smT)) : bMT E ctb (B + 1000000 * (2 + 1)) 160 sc110 := bMTof hE hsm ke110 (fun N hN => by
  cases hN with
  | head => exact bkn_s hE hsm kn110_0
  | tail _ hN =>
    exact absurd hN List.not_mem_nil)
set_option maxRecDepth 100000 in
theorem st111 {E : zE} (hE : E.1 < 2147483648) {B : Nat} (hsm : bSO E ctb B (12, smT)) : bMT E ctb (B + 1000000 * (402 + 1)) 160 sc111 := bMTof hE hsm ke111 (fun N hN => by
  cases hN with
  | head => exact bkn_s hE hsm kn111_0
  | tail _ hN =>
    cases hN with
    | head => exact bkn_s hE hsm kn111_1
    | tail _ hN =>
      cases hN with
      | head => exact bkn_s hE hsm kn111_2
      | tail _ hN =>
        cases hN with
        | head => exact bkn_s hE hsm kn111_3
        | tail _ hN =>
          cases hN with
          | head => exact bkn_s hE hsm kn111_4
          | tail _ hN =>
            exact absurd hN List.not_mem_nil)
set_option maxRecDepth 100000 in
theorem st112 {E : zE} (hE : E.1 < 2147483648) {B : Nat} (hsm : bSO E ctb B (12, smT)) : bMT E ctb (B + 1000000 * (402 + 1)) 160 sc112 := bMTof hE hsm ke112 (fun N hN => by
  cases hN with
  | head => exact bkn_s hE hsm kn112_0
  | tail _ hN =>
    cases hN with
    | head => exact bkn_s hE hsm kn112_1
    | tail _ hN =>
      cases hN with
      | head => exact bkn_s hE hsm kn112_2
      | tail _ hN =>
        cases hN with
        | head => exact bkn_s hE hsm kn112_3
        | tail _ hN =>
          cases hN with
          | head => exact bkn_s hE hsm kn112_4
          | tail _ hN =>
            exact absurd hN List.not_mem_nil)
set_option maxRecDepth 100000 in
theorem st113 {E : zE} (hE : E.1 < 2147483648) {B : Nat} (hsm : bSO E ctb B (12, smT)) : bMT E ctb (B + 1000000 * (402 + 1)) 160 sc113 := bMTof hE hsm ke113 (fun N hN => by
  cases hN with
  | head => exact bkn_s hE hsm kn113_0
  | tail _ hN =>
    cases hN with
    | head => exact bkn_s hE hsm kn113_1
    | tail _ hN =>
      cases hN with
      | head => exact bkn_s hE hsm kn113_2
      | tail _ hN =>
        cases hN with
        | head => exact bkn_s hE hsm kn113_3
        | tail _ hN =>
          cases hN with
          | head => exact bkn_s hE hsm kn113_4
          | tail _ hN =>
            exact absurd hN List.not_mem_nil)
set_option maxRecDepth 100000 in
theorem st114 {E : zE} (hE : E.1 < 2147483648) {B : Nat} (hsm : bSO E ctb B (3, smT)) : bMT E ctb (B + 1000000 * (2 + 1)) 160 sc114 := bMTof hE hsm ke114 (fun N hN => by
  cases hN with
  | head => exact bkn_s hE hsm kn114_0
  | tail _ hN =>
    exact absurd hN List.not_mem_nil)
set_option maxRecDepth 100000 in
theorem st115 {E : zE} (hE : E.1 < 2147483648) {B : Nat} (hsm : bSO E ctb B (3, smT)) : bMT E ctb (B + 1000000 * (2 + 1)) 160 sc115 := bMTof hE hsm ke115 (fun N hN => by
  cases hN with
  | head => exact bkn_s hE hsm kn115_0
  | tail _ hN =>
    exact absurd hN List.not_mem_nil)
set_option maxRecDepth 100000 in
theorem st116 {E : zE} (hE : E.1 < 2147483648) {B : Nat} (hsm : bSO E ctb B (9, smT)) : bMT E ctb (B + 1000000 * (402 + 1)) 160 sc116 := bMTof hE hsm ke116 (fun N hN => by
  cases hN with
  | head => exact bkn_s hE hsm kn116_0
  | tail _ hN =>
    cases hN with
    | head => exact bkn_s hE hsm kn116_1
    | tail _ hN =>
      cases hN with
      | head => exact bkn_s hE hsm kn116_2
      | tail _ hN =>
        cases hN with
        | head => exact bkn_s hE hsm kn116_3
        | tail _ hN =>
          cases hN with
          | head => exact bkn_s hE hsm kn116_4
          | tail _ hN =>
            exact absurd hN List.not_mem_nil)
set_option maxRecDepth 100000 in
theorem st117 {E : zE} (hE : E.1 < 2147483648) {B : Nat} (hsm : bSO E ctb B (9, smT)) : bMT E ctb (B + 1000000 * (402 + 1)) 160 sc117 := bMTof hE hsm ke117 (fun N hN => by
  cases hN with
  | head => exact bkn_s hE hsm kn117_0
  | tail _ hN =>
    cases hN with
    | head => exact bkn_s hE hsm kn117_1
    | tail _ hN =>
      cases hN with
      | head => exact bkn_s hE hsm kn117_2
      | tail _ hN =>
        cases hN with
        | head => exact bkn_s hE hsm kn117_3
        | tail _ hN =>
          cases hN with
          | head => exact bkn_s hE hsm kn117_4
          | tail _ hN =>
            exact absurd hN List.not_mem_nil)
set_option maxRecDepth 100000 in
theorem st118 {E : zE} (hE : E.1 < 2147483648) {B : Nat} (hsm : bSO E ctb B (9, smT)) : bMT E ctb (B + 1000000 * (402 + 1)) 160 sc118 := bMTof hE hsm ke118 (fun N hN => by
  cases hN with
  | head => exact bkn_s hE hsm kn118_0
  | tail _ hN =>
    cases hN with
    | head => exact bkn_s hE hsm kn118_1
    | tail _ hN =>
      cases hN with
      | head => exact bkn_s hE hsm kn118_2
      | tail _ hN =>
        cases hN with
        | head => exact bkn_s hE hsm kn118_3
        | tail _ hN =>
          cases hN with
          | head => exact bkn_s hE hsm kn118_4
          | tail _ hN =>
            exact absurd hN List.not_mem_nil)
set_option maxRecDepth 100000 in
theorem st119 {E : zE} (hE : E.1 < 2147483648) {B : Nat} (hsm : bSO E ctb B (3, smT)) : bMT E ctb (B + 1000000 * (2 + 1)) 160 sc119 := bMTof hE hsm ke119 (fun N hN => by
  cases hN with
  | head => exact bkn_s hE hsm kn119_0
  | tail _ hN =>
    exact absurd hN List.not_mem_nil)
set_option maxRecDepth 100000 in
theorem st120 {E : zE} (hE : E.1 < 2147483648) {B : Nat} (hsm : bSO E ctb B (3, smT)) : bMT E ctb (B + 1000000 * (2 + 1)) 160 sc120 := bMTof hE hsm ke120 (fun N hN => by
  cases hN with
  | head => exact bkn_s hE hsm kn120_0
  | tail _ hN =>
    exact absurd hN List.not_mem_nil)
set_option maxRecDepth 100000 in
theorem st121 {E : zE} (hE : E.1 < 2147483648) {B : Nat} (hsm : bSO E ctb B (6, smT)) : bMT E ctb (B + 1000000 * (402 + 1)) 160 sc121 := bMTof hE hsm ke121 (fun N hN => by
  cases hN with
  | head => exact bkn_s hE hsm kn121_0
  | tail _ hN =>
    cases hN with
    | head => exact bkn_s hE hsm kn121_1
    | tail _ hN =>
      cases hN with
      | head => exact bkn_s hE hsm kn121_2
      | tail _ hN =>
        cases hN with
        | head => exact bkn_s hE hsm kn121_3
        | tail _ hN =>
          cases hN with
          | head => exact bkn_s hE hsm kn121_4
          | tail _ hN =>
            exact absurd hN List.not_mem_nil)
set_option maxRecDepth 100000 in
theorem st122 {E : zE} (hE : E.1 < 2147483648) {B : Nat} (hsm : bSO E ctb B (6, smT)) : bMT E ctb (B + 1000000 * (402 + 1)) 160 sc122 := bMTof hE hsm ke122 (fun N hN => by
  cases hN with
  | head => exact bkn_s hE hsm kn122_0
  | tail _ hN =>
    cases hN with
    | head => exact bkn_s hE hsm kn122_1
    | tail _ hN =>
      cases hN with
      | head => exact bkn_s hE hsm kn122_2
      | tail _ hN =>
        cases hN with
        | head => exact bkn_s hE hsm kn122_3
        | tail _ hN =>
          cases hN with
          | head => exact bkn_s hE hsm kn122_4
          | tail _ hN =>
            exact absurd hN List.not_mem_nil)
set_option maxRecDepth 100000 in
theorem st123 {E : zE} (hE : E.1 < 2147483648) {B : Nat} (hsm : bSO E ctb B (6, smT)) : bMT E ctb (B + 1000000 * (402 + 1)) 160 sc123 := bMTof hE hsm ke123 (fun N hN => by
  cases hN with
  | head => exact bkn_s hE hsm kn123_0
  | tail _ hN =>
    cases hN with
    | head => exact bkn_s hE hsm kn123_1
    | tail _ hN =>
      cases hN with
      | head => exact bkn_s hE hsm kn123_2
      | tail _ hN =>
        cases hN with
        | head => exact bkn_s hE hsm kn123_3
        | tail _ hN =>
          cases hN with
          | head => exact bkn_s hE hsm kn123_4
          | tail _ hN =>
            exact absurd hN List.not_mem_nil)
set_option maxRecDepth 100000 in
theorem st124 {E : zE} (hE : E.1 < 2147483648) {B : Nat} (hsm : bSO E ctb B (3, smT)) : bMT E ctb (B + 1000000 * (2 + 1)) 160 sc124 := bMTof hE hsm ke124 (fun N hN => by
  cases hN with
  | head => exact bkn_s hE hsm kn124_0
  | tail _ hN =>
    exact absurd hN List.not_mem_nil)
set_option maxRecDepth 100000 in
theorem st125 {E : zE} (hE : E.1 < 2147483648) {B : Nat} (hsm : bSO E ctb B (3, smT)) : bMT E ctb (B + 1000000 * (2 + 1)) 160 sc125 := bMTof hE hsm ke125 (fun N hN => by
  cases hN with
  | head => exact bkn_s hE hsm kn125_0
  | tail _ hN =>
    exact absurd hN List.not_mem_nil)
set_option maxRecDepth 100000 in
theorem st126 {E : zE} (hE : E.1 < 2147483648) {B : Nat} (hsm : bSO E ctb B (3, smT)) : bMT E ctb (B + 1000000 * (402 + 1)) 160 sc126 := bMTof hE hsm ke126 (fun N hN => by
  cases hN with
  | head => exact bkn_s hE hsm kn126_0
  | tail _ hN =>
    cases hN with
    | head => exact bkn_s hE hsm kn126_1
    | tail _ hN =>
      cases hN with
      | head => exact bkn_s hE hsm kn126_2
      | tail _ hN =>
        cases hN with
        | head => exact bkn_s hE hsm kn126_3
        | tail _ hN =>
          cases hN with
          | head => exact bkn_s hE hsm kn126_4
          | tail _ hN =>
            exact absurd hN List.not_mem_nil)
set_option maxRecDepth 100000 in
theorem st127 {E : zE} (hE : E.1 < 2147483648) {B : Nat} (hsm : bSO E ctb B (3, smT)) : bMT E ctb (B + 1000000 * (402 + 1)) 160 sc127 := bMTof hE hsm ke127 (fun N hN => by
  cases hN with
  | head => exact bkn_s hE hsm kn127_0
  | tail _ hN =>
    cases hN with
    | head => exact bkn_s hE hsm kn127_1
    | tail _ hN =>
      cases hN with
      | head => exact bkn_s hE hsm kn127_2
      | tail _ hN =>
        cases hN with
        | head => exact bkn_s hE hsm kn127_3
        | tail _ hN =>
          cases hN with
          | head => exact bkn_s hE hsm kn127_4
          | tail _ hN =>
            exact absurd hN List.not_mem_nil)
set_option maxRecDepth 100000 in
theorem st128 {E : zE} (hE : E.1 < 2147483648) {B : Nat} (hsm : bSO E ctb B (3, smT)) : bMT E ctb (B + 1000000 * (2 + 1)) 160 sc128 := bMTof hE hsm ke128 (fun N hN => by
  cases hN with
  | head => exact bkn_s hE hsm kn128_0
  | tail _ hN =>
    exact absurd hN List.not_mem_nil)
set_option maxRecDepth 100000 in
theorem st129 {E : zE} (hE : E.1 < 2147483648) {B : Nat} (hsm : bSO E ctb B (2, smT)) : bMT E ctb (B + 1000000 * (0 + 1)) 161 sc129 := bMTof hE hsm ke129 (fun N hN => absurd hN List.not_mem_nil)
set_option maxRecDepth 100000 in
theorem st130 {E : zE} (hE : E.1 < 2147483648) {B : Nat} (hsm : bSO E ctb B (2, smT)) : bMT E ctb (B + 1000000 * (0 + 1)) 161 sc130 := bMTof hE hsm ke130 (fun N hN => absurd hN List.not_mem_nil)
set_option maxRecDepth 100000 in
theorem st131 {E : zE} (hE : E.1 < 2147483648) {B : Nat} (hsm : bSO E ctb B (2, smT)) : bMT E ctb (B + 1000000 * (0 + 1)) 161 sc131 := bMTof hE hsm ke131 (fun N hN => absurd hN List.not_mem_nil)
set_option maxRecDepth 100000 in
theorem st132 {E : zE} (hE : E.1 < 2147483648) {B : Nat} (hsm : bSO E ctb B (19, smT)) : bMT E ctb (B + 1000000 * (0 + 1)) 161 sc132 := bMTof hE hsm ke132 (fun N hN => absurd hN List.not_mem_nil)
set_option maxRecDepth 100000 in
theorem st133 {E : zE} (hE : E.1 < 2147483648) {B : Nat} (hsm : bSO E ctb B (20, smT)) : bMT E ctb (B + 1000000 * (0 + 1)) 161 sc133 := bMTof hE hsm ke133 (fun N hN => absurd hN List.not_mem_nil)
set_option maxRecDepth 100000 in
theorem st134 {E : zE} (hE : E.1 < 2147483648) {B : Nat} (hsm : bSO E ctb B (2, smT)) : bMT E ctb (B + 1000000 * (0 + 1)) 161 sc134 := bMTof hE hsm ke134 (fun N hN => absurd hN List.not_mem_nil)
set_option maxRecDepth 100000 in
theorem st135 {E : zE} (hE : E.1 < 2147483648) {B : Nat} (hsm : bSO E ctb B (2, smT)) : bMT E ctb (B + 1000000 * (0 + 1)) 161 sc135 := bMTof hE hsm ke135 (fun N hN => absurd hN List.not_mem_nil)
set_option maxRecDepth 100000 in
theorem st136 {E : zE} (hE : E.1 < 2147483648) {B : Nat} (hsm : bSO E ctb B (2, smT)) : bMT E ctb (B + 1000000 * (0 + 1)) 161 sc136 := bMTof hE hsm ke136 (fun N hN => absurd hN List.not_mem_nil)
set_option maxRecDepth 100000 in
theorem st137 {E : zE} (hE : E.1 < 2147483648) {B : Nat} (hsm : bSO E ctb B (16, smT)) : bMT E ctb (B + 1000000 * (0 + 1)) 161 sc137 := bMTof hE hsm ke137 (fun N hN => absurd hN List.not_mem_nil)
set_option maxRecDepth 100000 in
theorem st138 {E : zE} (hE : E.1 < 2147483648) {B : Nat} (hsm : bSO E ctb B (17, smT)) : bMT E ctb (B + 1000000 * (0 + 1)) 161 sc138 := bMTof hE hsm ke138 (fun N hN => absurd hN List.not_mem_nil)
set_option maxRecDepth 100000 in
theorem st139 {E : zE} (hE : E.1 < 2147483648) {B : Nat} (hsm : bSO E ctb B (2, smT)) : bMT E ctb (B + 1000000 * (0 + 1)) 161 sc139 := bMTof hE hsm ke139 (fun N hN => absurd hN List.not_mem_nil)
set_option maxRecDepth 100000 in
theorem st140 {E : zE} (hE : E.1 < 2147483648) {B : Nat} (hsm : bSO E ctb B (2, smT)) : bMT E ctb (B + 1000000 * (0 + 1)) 161 sc140 := bMTof hE hsm ke140 (fun N hN => absurd hN List.not_mem_nil)
set_option maxRecDepth 100000 in
theorem st141 {E : zE} (hE : E.1 < 2147483648) {B : Nat} (hsm : bSO E ctb B (2, smT)) : bMT E ctb (B + 1000000 * (0 + 1)) 161 sc141 := bMTof hE hsm ke141 (fun N hN => absurd hN List.not_mem_nil)
set_option maxRecDepth 100000 in
theorem st142 {E : zE} (hE : E.1 < 2147483648) {B : Nat} (hsm : bSO E ctb B (13, smT)) : bMT E ctb (B + 1000000 * (0 + 1)) 161 sc142 := bMTof hE hsm ke142 (fun N hN => absurd hN List.not_mem_nil)
set_option maxRecDepth 100000 in
theorem st143 {E : zE} (hE : E.1 < 2147483648) {B : Nat} (hsm : bSO E ctb B (14, smT)) : bMT E ctb (B + 1000000 * (0 + 1)) 161 sc143 := bMTof hE hsm ke143 (fun N hN => absurd hN List.not_mem_nil)
set_option maxRecDepth 100000 in
theorem st144 {E : zE} (hE : E.1 < 2147483648) {B : Nat} (hsm : bSO E ctb B (2, smT)) : bMT E ctb (B + 1000000 * (0 + 1)) 161 sc144 := bMTof hE hsm ke144 (fun N hN => absurd hN List.not_mem_nil)
set_option maxRecDepth 100000 in
theorem st145 {E : zE} (hE : E.1 < 2147483648) {B : Nat} (hsm : bSO E ctb B (2, smT)) : bMT E ctb (B + 1000000 * (0 + 1)) 161 sc145 := bMTof hE hsm ke145 (fun N hN => absurd hN List.not_mem_nil)
set_option maxRecDepth 100000 in
theorem st146 {E : zE} (hE : E.1 < 2147483648) {B : Nat} (hsm : bSO E ctb B (2, smT)) : bMT E ctb (B + 1000000 * (0 + 1)) 161 sc146 := bMTof hE hsm ke146 (fun N hN => absurd hN List.not_mem_nil)
set_option maxRecDepth 100000 in
theorem st147 {E : zE} (hE : E.1 < 2147483648) {B : Nat} (hsm : bSO E ctb B (10, smT)) : bMT E ctb (B + 1000000 * (0 + 1)) 161 sc147 := bMTof hE hsm ke147 (fun N hN => absurd hN List.not_mem_nil)
set_option maxRecDepth 100000 in
theorem st148 {E : zE} (hE : E.1 < 2147483648) {B : Nat} (hsm : bSO E ctb B (11, smT)) : bMT E ctb (B + 1000000 * (0 + 1)) 161 sc148 := bMTof hE hsm ke148 (fun N hN => absurd hN List.not_mem_nil)
set_option maxRecDepth 100000 in
theorem st149 {E : zE} (hE : E.1 < 2147483648) {B : Nat} (hsm : bSO E ctb B (2, smT)) : bMT E ctb (B + 1000000 * (0 + 1)) 161 sc149 := bMTof hE hsm ke149 (fun N hN => absurd hN List.not_mem_nil)
set_option maxRecDepth 100000 in
theorem st150 {E : zE} (hE : E.1 < 2147483648) {B : Nat} (hsm : bSO E ctb B (2, smT)) : bMT E ctb (B + 1000000 * (0 + 1)) 161 sc150 := bMTof hE hsm ke150 (fun N hN => absurd hN List.not_mem_nil)
set_option maxRecDepth 100000 in
theorem st151 {E : zE} (hE : E.1 < 2147483648) {B : Nat} (hsm : bSO E ctb B (2, smT)) : bMT E ctb (B + 1000000 * (0 + 1)) 161 sc151 := bMTof hE hsm ke151 (fun N hN => absurd hN List.not_mem_nil)
set_option maxRecDepth 100000 in
theorem st152 {E : zE} (hE : E.1 < 2147483648) {B : Nat} (hsm : bSO E ctb B (7, smT)) : bMT E ctb (B + 1000000 * (0 + 1)) 161 sc152 := bMTof hE hsm ke152 (fun N hN => absurd hN List.not_mem_nil)
set_option maxRecDepth 100000 in
theorem st153 {E : zE} (hE : E.1 < 2147483648) {B : Nat} (hsm : bSO E ctb B (8, smT)) : bMT E ctb (B + 1000000 * (0 + 1)) 161 sc153 := bMTof hE hsm ke153 (fun N hN => absurd hN List.not_mem_nil)
set_option maxRecDepth 100000 in
theorem st154 {E : zE} (hE : E.1 < 2147483648) {B : Nat} (hsm : bSO E ctb B (2, smT)) : bMT E ctb (B + 1000000 * (0 + 1)) 161 sc154 := bMTof hE hsm ke154 (fun N hN => absurd hN List.not_mem_nil)
set_option maxRecDepth 100000 in
theorem st155 {E : zE} (hE : E.1 < 2147483648) {B : Nat} (hsm : bSO E ctb B (2, smT)) : bMT E ctb (B + 1000000 * (0 + 1)) 161 sc155 := bMTof hE hsm ke155 (fun N hN => absurd hN List.not_mem_nil)
set_option maxRecDepth 100000 in
theorem st156 {E : zE} (hE : E.1 < 2147483648) {B : Nat} (hsm : bSO E ctb B (2, smT)) : bMT E ctb (B + 1000000 * (0 + 1)) 161 sc156 := bMTof hE hsm ke156 (fun N hN => absurd hN List.not_mem_nil)
set_option maxRecDepth 100000 in
theorem st157 {E : zE} (hE : E.1 < 2147483648) {B : Nat} (hsm : bSO E ctb B (4, smT)) : bMT E ctb (B + 1000000 * (0 + 1)) 161 sc157 := bMTof hE hsm ke157 (fun N hN => absurd hN List.not_mem_nil)
set_option maxRecDepth 100000 in
theorem st158 {E : zE} (hE : E.1 < 2147483648) {B : Nat} (hsm : bSO E ctb B (5, smT)) : bMT E ctb (B + 1000000 * (0 + 1)) 161 sc158 := bMTof hE hsm ke158 (fun N hN => absurd hN List.not_mem_nil)
set_option maxRecDepth 100000 in
theorem st159 {E : zE} (hE : E.1 < 2147483648) {B : Nat} (hsm : bSO E ctb B (2, smT)) : bMT E ctb (B + 1000000 * (0 + 1)) 161 sc159 := bMTof hE hsm ke159 (fun N hN => absurd hN List.not_mem_nil)
set_option maxRecDepth 100000 in
theorem st160 {E : zE} (hE : E.1 < 2147483648) {B : Nat} (hsm : bSO E ctb B (2, smT)) : bMT E ctb (B + 1000000 * (0 + 1)) 161 sc160 := bMTof hE hsm ke160 (fun N hN => absurd hN List.not_mem_nil)
set_option maxRecDepth 100000 in
theorem st161 {E : zE} (hE : E.1 < 2147483648) {B : Nat} (hsm : bSO E ctb B (2, smT)) : bMT E ctb (B + 1000000 * (0 + 1)) 161 sc161 := bMTof hE hsm ke161 (fun N hN => absurd hN List.not_mem_nil)
set_option maxRecDepth 100000 in
theorem st162 {E : zE} (hE : E.1 < 2147483648) {B : Nat} (hsm : bSO E ctb B (2, smT)) : bMT E ctb (B + 1000000 * (0 + 1)) 161 sc162 := bMTof hE hsm ke162 (fun N hN => absurd hN List.not_mem_nil)
set_option maxRecDepth 100000 in
theorem st163 {E : zE} (hE : E.1 < 2147483648) {B : Nat} (hsm : bSO E ctb B (2, smT)) : bMT E ctb (B + 1000000 * (0 + 1)) 161 sc163 := bMTof hE hsm ke163 (fun N hN => absurd hN List.not_mem_nil)
set_option maxRecDepth 100000 in
theorem st164 {E : zE} (hE : E.1 < 2147483648) {B : Nat} (hsm : bSO E ctb B (1, smT)) : bMT E ctb (B + 1000000 * (2 + 1)) 164 sc164 := bMTof hE hsm ke164 (fun N hN => by
  cases hN with
  | head => exact bkn_s hE hsm kn164_0
  | tail _ hN =>
    exact absurd hN List.not_mem_nil)
set_option maxRecDepth 100000 in
theorem st165 {E : zE} (hE : E.1 < 2147483648) {B : Nat} (hsm : bSO E ctb B (1, smT)) : bMT E ctb (B + 1000000 * (2 + 1)) 164 sc165 := bMTof hE hsm ke165 (fun N hN => by
  cases hN with
  | head => exact bkn_s hE hsm kn165_0
  | tail _ hN =>
    exact absurd hN List.not_mem_nil)
set_option maxRecDepth 100000 in
theorem st166 {E : zE} (hE : E.1 < 2147483648) {B : Nat} (hsm : bSO E ctb B (1, smT)) : bMT E ctb (B + 1000000 * (402 + 1)) 164 sc166 := bMTof hE hsm ke166 (fun N hN => by
  cases hN with
  | head => exact bkn_s hE hsm kn166_0
  | tail _ hN =>
    cases hN with
    | head => exact bkn_s hE hsm kn166_1
    | tail _ hN =>
      cases hN with
      | head => exact bkn_s hE hsm kn166_2
      | tail _ hN =>
        cases hN with
        | head => exact bkn_s hE hsm kn166_3
        | tail _ hN =>
          cases hN with
          | head => exact bkn_s hE hsm kn166_4
          | tail _ hN =>
            cases hN with
            | head => exact bkn_s hE hsm kn166_5
            | tail _ hN =>
              cases hN with
              | head => exact bkn_s hE hsm kn166_6
              | tail _ hN =>
                cases hN with
                | head => exact bkn_s hE hsm kn166_7
                | tail _ hN =>
                  cases hN with
                  | head => exact bkn_s hE hsm kn166_8
                  | tail _ hN =>
                    cases hN with
                    | head => exact bkn_s hE hsm kn166_9
                    | tail _ hN =>
                      cases hN with
                      | head => exact bkn_s hE hsm kn166_10
                      | tail _ hN =>
                        cases hN with
                        | head => exact bkn_s hE hsm kn166_11
                        | tail _ hN =>
                          cases hN with
                          | head => exact bkn_s hE hsm kn166_12
                          | tail _ hN =>
                            cases hN with
                            | head => exact bkn_s hE hsm kn166_13
                            | tail _ hN =>
                              cases hN with
                              | head => exact bkn_s hE hsm kn166_14
                              | tail _ hN =>
                                exact absurd hN List.not_mem_nil)
set_option maxRecDepth 100000 in
theorem st167 {E : zE} (hE : E.1 < 2147483648) {B : Nat} (hsm : bSO E ctb B (1, smT)) : bMT E ctb (B + 1000000 * (402 + 1)) 164 sc167 := bMTof hE hsm ke167 (fun N hN => by
  cases hN with
  | head => exact bkn_s hE hsm kn167_0
  | tail _ hN =>
    cases hN with
    | head => exact bkn_s hE hsm kn167_1
    | tail _ hN =>
      cases hN with
      | head => exact bkn_s hE hsm kn167_2
      | tail _ hN =>
        cases hN with
        | head => exact bkn_s hE hsm kn167_3
        | tail _ hN =>
          cases hN with
          | head => exact bkn_s hE hsm kn167_4
          | tail _ hN =>
            cases hN with
            | head => exact bkn_s hE hsm kn167_5
            | tail _ hN =>
              cases hN with
              | head => exact bkn_s hE hsm kn167_6
              | tail _ hN =>
                cases hN with
                | head => exact bkn_s hE hsm kn167_7
                | tail _ hN =>
                  cases hN with
                  | head => exact bkn_s hE hsm kn167_8
                  | tail _ hN =>
                    cases hN with
                    | head => exact bkn_s hE hsm kn167_9
                    | tail _ hN =>
                      cases hN with
                      | head => exact bkn_s hE hsm kn167_10
                      | tail _ hN =>
                        cases hN with
                        | head => exact bkn_s hE hsm kn167_11
                        | tail _ hN =>
                          cases hN with
                          | head => exact bkn_s hE hsm kn167_12
                          | tail _ hN =>
                            cases hN with
                            | head => exact bkn_s hE hsm kn167_13
                            | tail _ hN =>
                              cases hN with
                              | head => exact bkn_s hE hsm kn167_14
                              | tail _ hN =>
                                exact absurd hN List.not_mem_nil)
set_option maxRecDepth 100000 in
theorem st168 {E : zE} (hE : E.1 < 2147483648) {B : Nat} (hsm : bSO E ctb B (1, smT)) : bMT E ctb (B + 1000000 * (2 + 1)) 164 sc168 := bMTof hE hsm ke168 (fun N hN => by
  cases hN with
  | head => exact bkn_s hE hsm kn168_0
  | tail _ hN =>
    exact absurd hN List.not_mem_nil)
set_option maxRecDepth 100000 in
theorem st171 {E : zE} (hE : E.1 < 2147483648) {B : Nat} (hsm : bSO E ctb B (0, smT)) : bMT E ctb (B + 1000000 * (14 + 1)) 175 sc171 := bMTof hE hsm ke171 (fun N hN => by
  cases hN with
  | head => exact bkn_s hE hsm kn171_0
  | tail _ hN =>
    exact absurd hN List.not_mem_nil)
set_option maxRecDepth 100000 in
theorem st172 {E : zE} (hE : E.1 < 2147483648) {B : Nat} (hsm : bSO E ctb B (0, smT)) : bMT E ctb (B + 1000000 * (14 + 1)) 176 sc172 := bMTof hE hsm ke172 (fun N hN => by
  cases hN with
  | head => exact bkn_s hE hsm kn172_0
  | tail _ hN =>
    exact absurd hN List.not_mem_nil)
set_option maxRecDepth 100000 in
theorem st173 {E : zE} (hE : E.1 < 2147483648) {B : Nat} (hsm : bSO E ctb B (0, smT)) : bMT E ctb (B + 1000000 * (183 + 1)) 177 sc173 := bMTof hE hsm ke173 (fun N hN => by
  cases hN with
  | head => exact bkn_s hE hsm kn173_0
  | tail _ hN =>
    cases hN with
    | head => exact bkn_s hE hsm kn173_1
    | tail _ hN =>
      exact absurd hN List.not_mem_nil)
set_option maxRecDepth 100000 in
theorem st174 {E : zE} (hE : E.1 < 2147483648) {B : Nat} (hsm : bSO E ctb B (0, smT)) : bMT E ctb (B + 1000000 * (1204 + 1)) 181 sc174 := bMTof hE hsm ke174 (fun N hN => by
  cases hN with
  | head => exact bkn_s hE hsm kn174_0
  | tail _ hN =>
    cases hN with
    | head => exact bkn_s hE hsm kn174_1
    | tail _ hN =>
      cases hN with
      | head => exact bkn_s hE hsm kn174_2
      | tail _ hN =>
        cases hN with
        | head => exact bkn_s hE hsm kn174_3
        | tail _ hN =>
          cases hN with
          | head => exact bkn_s hE hsm kn174_4
          | tail _ hN =>
            cases hN with
            | head => exact bkn_s hE hsm kn174_5
            | tail _ hN =>
              cases hN with
              | head => exact bkn_s hE hsm kn174_6
              | tail _ hN =>
                cases hN with
                | head => exact bkn_s hE hsm kn174_7
                | tail _ hN =>
                  cases hN with
                  | head => exact bkn_s hE hsm kn174_8
                  | tail _ hN =>
                    cases hN with
                    | head => exact bkn_s hE hsm kn174_9
                    | tail _ hN =>
                      cases hN with
                      | head => exact bkn_s hE hsm kn174_10
                      | tail _ hN =>
                        cases hN with
                        | head => exact bkn_s hE hsm kn174_11
                        | tail _ hN =>
                          cases hN with
                          | head => exact bkn_s hE hsm kn174_12
                          | tail _ hN =>
                            cases hN with
                            | head => exact bkn_s hE hsm kn174_13
                            | tail _ hN =>
                              cases hN with
                              | head => exact bkn_s hE hsm kn174_14
                              | tail _ hN =>
                                exact absurd hN List.not_mem_nil)
set_option maxRecDepth 100000 in
theorem st175 {E : zE} (hE : E.1 < 2147483648) {B : Nat} (hsm : bSO E ctb B (0, smT)) : bMT E ctb (B + 1000000 * (0 + 1)) 185 sc175 := bMTof hE hsm ke175 (fun N hN => absurd hN List.not_mem_nil)
set_option maxRecDepth 100000 in
theorem st176 {E : zE} (hE : E.1 < 2147483648) {B : Nat} (hsm : bSO E ctb B (0, smT)) : bMT E ctb (B + 1000000 * (24 + 1)) 185 sc176 := bMTof hE hsm ke176 (fun N hN => by
  cases hN with
  | head => exact bkn_s hE hsm kn176_0
  | tail _ hN =>
    cases hN with
    | head => exact bkn_s hE hsm kn176_1
    | tail _ hN =>
      cases hN with
      | head => exact bkn_s hE hsm kn176_2
      | tail _ hN =>
        cases hN with
        | head => exact bkn_s hE hsm kn176_3
        | tail _ hN =>
          cases hN with
          | head => exact bkn_s hE hsm kn176_4
          | tail _ hN =>
            cases hN with
            | head => exact bkn_s hE hsm kn176_5
            | tail _ hN =>
              cases hN with
              | head => exact bkn_s hE hsm kn176_6
              | tail _ hN =>
                cases hN with
                | head => exact bkn_s hE hsm kn176_7
                | tail _ hN =>
                  cases hN with
                  | head => exact bkn_s hE hsm kn176_8
                  | tail _ hN =>
                    cases hN with
                    | head => exact bkn_s hE hsm kn176_9
                    | tail _ hN =>
                      cases hN with
                      | head => exact bkn_s hE hsm kn176_10
                      | tail _ hN =>
                        cases hN with
                        | head => exact bkn_s hE hsm kn176_11
                        | tail _ hN =>
                          cases hN with
                          | head => exact bkn_s hE hsm kn176_12
                          | tail _ hN =>
                            cases hN with
                            | head => exact bkn_s hE hsm kn176_13
                            | tail _ hN =>
                              cases hN with
                              | head => exact bkn_s hE hsm kn176_14
                              | tail _ hN =>
                                cases hN with
                                | head => exact bkn_s hE hsm kn176_15
                                | tail _ hN =>
                                  cases hN with
                                  | head => exact bkn_s hE hsm kn176_16
                                  | tail _ hN =>
                                    cases hN with
                                    | head => exact bkn_s hE hsm kn176_17
                                    | tail _ hN =>
                                      cases hN with
                                      | head => exact bkn_s hE hsm kn176_18
                                      | tail _ hN =>
                                        cases hN with
                                        | head => exact bkn_s hE hsm kn176_19
                                        | tail _ hN =>
                                          cases hN with
                                          | head => exact bkn_s hE hsm kn176_20
                                          | tail _ hN =>
                                            cases hN with
                                            | head => exact bkn_s hE hsm kn176_21
                                            | tail _ hN =>
                                              cases hN with
                                              | head => exact bkn_s hE hsm kn176_22
                                              | tail _ hN =>
                                                exact absurd hN List.not_mem_nil)
set_option maxRecDepth 100000 in
theorem st177 {E : zE} (hE : E.1 < 2147483648) {B : Nat} (hsm : bSO E ctb B (0, smT)) : bMT E ctb (B + 1000000 * (0 + 1)) 185 sc177 := bMTof hE hsm ke177 (fun N hN => absurd hN List.not_mem_nil)
set_option maxRecDepth 100000 in
theorem st178 {E : zE} (hE : E.1 < 2147483648) {B : Nat} (hsm : bSO E ctb B (0, smT)) : bMT E ctb (B + 1000000 * (0 + 1)) 185 sc178 := bMTof hE hsm ke178 (fun N hN => absurd hN List.not_mem_nil)
set_option maxRecDepth 100000 in
theorem st179 {E : zE} (hE : E.1 < 2147483648) {B : Nat} (hsm : bSO E ctb B (0, smT)) : bMT E ctb (B + 1000000 * (49 + 1)) 185 sc179 := bMTof hE hsm ke179 (fun N hN => by
  cases hN with
  | head => exact bkn_s hE hsm kn179_0
  | tail _ hN =>
    cases hN with
    | head => exact bkn_s hE hsm kn179_1
    | tail _ hN =>
      cases hN with
      | head => exact bkn_s hE hsm kn179_2
      | tail _ hN =>
        cases hN with
        | head => exact bkn_s hE hsm kn179_3
        | tail _ hN =>
          cases hN with
          | head => exact bkn_s hE hsm kn179_4
          | tail _ hN =>
            cases hN with
            | head => exact bkn_s hE hsm kn179_5
            | tail _ hN =>
              cases hN with
              | head => exact bkn_s hE hsm kn179_6
              | tail _ hN =>
                cases hN with
                | head => exact bkn_s hE hsm kn179_7
                | tail _ hN =>
                  cases hN with
                  | head => exact bkn_s hE hsm kn179_8
                  | tail _ hN =>
                    cases hN with
                    | head => exact bkn_s hE hsm kn179_9
                    | tail _ hN =>
                      cases hN with
                      | head => exact bkn_s hE hsm kn179_10
                      | tail _ hN =>
                        cases hN with
                        | head => exact bkn_s hE hsm kn179_11
                        | tail _ hN =>
                          cases hN with
                          | head => exact bkn_s hE hsm kn179_12
                          | tail _ hN =>
                            cases hN with
                            | head => exact bkn_s hE hsm kn179_13
                            | tail _ hN =>
                              cases hN with
                              | head => exact bkn_s hE hsm kn179_14
                              | tail _ hN =>
                                cases hN with
                                | head => exact bkn_s hE hsm kn179_15
                                | tail _ hN =>
                                  cases hN with
                                  | head => exact bkn_s hE hsm kn179_16
                                  | tail _ hN =>
                                    cases hN with
                                    | head => exact bkn_s hE hsm kn179_17
                                    | tail _ hN =>
                                      cases hN with
                                      | head => exact bkn_s hE hsm kn179_18
                                      | tail _ hN =>
                                        cases hN with
                                        | head => exact bkn_s hE hsm kn179_19
                                        | tail _ hN =>
                                          cases hN with
                                          | head => exact bkn_s hE hsm kn179_20
                                          | tail _ hN =>
                                            cases hN with
                                            | head => exact bkn_s hE hsm kn179_21
                                            | tail _ hN =>
                                              cases hN with
                                              | head => exact bkn_s hE hsm kn179_22
                                              | tail _ hN =>
                                                cases hN with
                                                | head => exact bkn_s hE hsm kn179_23
                                                | tail _ hN =>
                                                  cases hN with
                                                  | head => exact bkn_s hE hsm kn179_24
                                                  | tail _ hN =>
                                                    cases hN with
                                                    | head => exact bkn_s hE hsm kn179_25
                                                    | tail _ hN =>
                                                      cases hN with
                                                      | head => exact bkn_s hE hsm kn179_26
                                                      | tail _ hN =>
                                                        cases hN with
                                                        | head => exact bkn_s hE hsm kn179_27
                                                        | tail _ hN =>
                                                          cases hN with
                                                          | head => exact bkn_s hE hsm kn179_28
                                                          | tail _ hN =>
                                                            cases hN with
                                                            | head => exact bkn_s hE hsm kn179_29
                                                            | tail _ hN =>
                                                              cases hN with
                                                              | head => exact bkn_s hE hsm kn179_30
                                                              | tail _ hN =>
                                                                cases hN with
                                                                | head => exact bkn_s hE hsm kn179_31
                                                                | tail _ hN =>
                                                                  cases hN with
                                                                  | head => exact bkn_s hE hsm kn179_32
                                                                  | tail _ hN =>
                                                                    cases hN with
                                                                    | head => exact bkn_s hE hsm kn179_33
                                                                    | tail _ hN =>
                                                                      cases hN with
                                                                      | head => exact bkn_s hE hsm kn179_34
                                                                      | tail _ hN =>
                                                                        cases hN with
                                                                        | head => exact bkn_s hE hsm kn179_35
                                                                        | tail _ hN =>
                                                                          cases hN with
                                                                          | head => exact bkn_s hE hsm kn179_36
                                                                          | tail _ hN =>
                                                                            cases hN with
                                                                            | head => exact bkn_s hE hsm kn179_37
                                                                            | tail _ hN =>
                                                                              cases hN with
                                                                              | head => exact bkn_s hE hsm kn179_38
                                                                              | tail _ hN =>
                                                                                cases hN with
                                                                                | head => exact bkn_s hE hsm kn179_39
                                                                                | tail _ hN =>
                                                                                  cases hN with
                                                                                  | head => exact bkn_s hE hsm kn179_40
                                                                                  | tail _ hN =>
                                                                                    cases hN with
                                                                                    | head => exact bkn_s hE hsm kn179_41
                                                                                    | tail _ hN =>
                                                                                      cases hN with
                                                                                      | head => exact bkn_s hE hsm kn179_42
                                                                                      | tail _ hN =>
                                                                                        cases hN with
                                                                                        | head => exact bkn_s hE hsm kn179_43
                                                                                        | tail _ hN =>
                                                                                          cases hN with
                                                                                          | head => exact bkn_s hE hsm kn179_44
                                                                                          | tail _ hN =>
                                                                                            cases hN with
                                                                                            | head => exact bkn_s hE hsm kn179_45
                                                                                            | tail _ hN =>
                                                                                              cases hN with
                                                                                              | head => exact bkn_s hE hsm kn179_46
                                                                                              | tail _ hN =>
                                                                                                cases hN with
                                                                                                | head => exact bkn_s hE hsm kn179_47
                                                                                                | tail _ hN =>
                                                                                                  exact absurd hN List.not_mem_nil)
set_option maxRecDepth 100000 in
theorem st180 {E : zE} (hE : E.1 < 2147483648) {B : Nat} (hsm : bSO E ctb B (0, smT)) : bMT E ctb (B + 1000000 * (0 + 1)) 185 sc180 := bMTof hE hsm ke180 (fun N hN => absurd hN List.not_mem_nil)
set_option maxRecDepth 100000 in
theorem st181 {E : zE} (hE : E.1 < 2147483648) {B : Nat} (hsm : bSO E ctb B (0, smT)) : bMT E ctb (B + 1000000 * (0 + 1)) 185 sc181 := bMTof hE hsm ke181 (fun N hN => absurd hN List.not_mem_nil)
set_option maxRecDepth 100000 in
theorem st182 {E : zE} (hE : E.1 < 2147483648) {B : Nat} (hsm : bSO E ctb B (0, smT)) : bMT E ctb (B + 1000000 * (0 + 1)) 185 sc182 := bMTof hE hsm ke182 (fun N hN => absurd hN List.not_mem_nil)
set_option maxRecDepth 100000 in
theorem st183 {E : zE} (hE : E.1 < 2147483648) {B : Nat} (hsm : bSO E ctb B (0, smT)) : bMT E ctb (B + 1000000 * (5 + 1)) 185 sc183 := bMTof hE hsm ke183 (fun N hN => by
  cases hN with
  | head => exact bkn_s hE hsm kn183_0
  | tail _ hN =>
    cases hN with
    | head => exact bkn_s hE hsm kn183_1
    | tail _ hN =>
      cases hN with
      | head => exact bkn_s hE hsm kn183_2
      | tail _ hN =>
        cases hN with
        | head => exact bkn_s hE hsm kn183_3
        | tail _ hN =>
          exact absurd hN List.not_mem_nil)
set_option maxRecDepth 100000 in
theorem st184 {E : zE} (hE : E.1 < 2147483648) {B : Nat} (hsm : bSO E ctb B (0, smT)) : bMT E ctb (B + 1000000 * (0 + 1)) 185 sc184 := bMTof hE hsm ke184 (fun N hN => absurd hN List.not_mem_nil)
set_option maxRecDepth 100000 in
theorem st185 {E : zE} (hE : E.1 < 2147483648) {B : Nat} (hsm : bSO E ctb B (0, smT)) : bMT E ctb (B + 1000000 * (0 + 1)) 185 sc185 := bMTof hE hsm ke185 (fun N hN => absurd hN List.not_mem_nil)
set_option maxRecDepth 100000 in
theorem st186 {E : zE} (hE : E.1 < 2147483648) {B : Nat} (hsm : bSO E ctb B (0, smT)) : bMT E ctb (B + 1000000 * (0 + 1)) 185 sc186 := bMTof hE hsm ke186 (fun N hN => absurd hN List.not_mem_nil)
set_option maxRecDepth 100000 in
theorem st187 {E : zE} (hE : E.1 < 2147483648) {B : Nat} (hsm : bSO E ctb B (0, smT)) : bMT E ctb (B + 1000000 * (29 + 1)) 185 sc187 := bMTof hE hsm ke187 (fun N hN => by
  cases hN with
  | head => exact bkn_s hE hsm kn187_0
  | tail _ hN =>
    cases hN with
    | head => exact bkn_s hE hsm kn187_1
    | tail _ hN =>
      cases hN with
      | head => exact bkn_s hE hsm kn187_2
      | tail _ hN =>
        cases hN with
        | head => exact bkn_s hE hsm kn187_3
        | tail _ hN =>
          cases hN with
          | head => exact bkn_s hE hsm kn187_4
          | tail _ hN =>
            cases hN with
            | head => exact bkn_s hE hsm kn187_5
            | tail _ hN =>
              cases hN with
              | head => exact bkn_s hE hsm kn187_6
              | tail _ hN =>
                cases hN with
                | head => exact bkn_s hE hsm kn187_7
                | tail _ hN =>
                  cases hN with
                  | head => exact bkn_s hE hsm kn187_8
                  | tail _ hN =>
                    cases hN with
                    | head => exact bkn_s hE hsm kn187_9
                    | tail _ hN =>
                      cases hN with
                      | head => exact bkn_s hE hsm kn187_10
                      | tail _ hN =>
                        cases hN with
                        | head => exact bkn_s hE hsm kn187_11
                        | tail _ hN =>
                          cases hN with
                          | head => exact bkn_s hE hsm kn187_12
                          | tail _ hN =>
                            cases hN with
                            | head => exact bkn_s hE hsm kn187_13
                            | tail _ hN =>
                              cases hN with
                              | head => exact bkn_s hE hsm kn187_14
                              | tail _ hN =>
                                cases hN with
                                | head => exact bkn_s hE hsm kn187_15
                                | tail _ hN =>
                                  cases hN with
                                  | head => exact bkn_s hE hsm kn187_16
                                  | tail _ hN =>
                                    cases hN with
                                    | head => exact bkn_s hE hsm kn187_17
                                    | tail _ hN =>
                                      cases hN with
                                      | head => exact bkn_s hE hsm kn187_18
                                      | tail _ hN =>
                                        cases hN with
                                        | head => exact bkn_s hE hsm kn187_19
                                        | tail _ hN =>
                                          cases hN with
                                          | head => exact bkn_s hE hsm kn187_20
                                          | tail _ hN =>
                                            cases hN with
                                            | head => exact bkn_s hE hsm kn187_21
                                            | tail _ hN =>
                                              cases hN with
                                              | head => exact bkn_s hE hsm kn187_22
                                              | tail _ hN =>
                                                cases hN with
                                                | head => exact bkn_s hE hsm kn187_23
                                                | tail _ hN =>
                                                  cases hN with
                                                  | head => exact bkn_s hE hsm kn187_24
                                                  | tail _ hN =>
                                                    cases hN with
                                                    | head => exact bkn_s hE hsm kn187_25
                                                    | tail _ hN =>
                                                      cases hN with
                                                      | head => exact bkn_s hE hsm kn187_26
                                                      | tail _ hN =>
                                                        cases hN with
                                                        | head => exact bkn_s hE hsm kn187_27
                                                        | tail _ hN =>
                                                          exact absurd hN List.not_mem_nil)
set_option maxRecDepth 100000 in
theorem st188 {E : zE} (hE : E.1 < 2147483648) {B : Nat} (hsm : bSO E ctb B (0, smT)) : bMT E ctb (B + 1000000 * (0 + 1)) 185 sc188 := bMTof hE hsm ke188 (fun N hN => absurd hN List.not_mem_nil)
set_option maxRecDepth 100000 in
theorem st189 {E : zE} (hE : E.1 < 2147483648) {B : Nat} (hsm : bSO E ctb B (0, smT)) : bMT E ctb (B + 1000000 * (0 + 1)) 185 sc189 := bMTof hE hsm ke189 (fun N hN => absurd hN List.not_mem_nil)
set_option maxRecDepth 100000 in
theorem st190 {E : zE} (hE : E.1 < 2147483648) {B : Nat} (hsm : bSO E ctb B (0, smT)) : bMT E ctb (B + 1000000 * (0 + 1)) 185 sc190 := bMTof hE hsm ke190 (fun N hN => absurd hN List.not_mem_nil)
set_option maxRecDepth 100000 in
theorem st191 {E : zE} (hE : E.1 < 2147483648) {B : Nat} (hsm : bSO E ctb B (0, smT)) : bMT E ctb (B + 1000000 * (0 + 1)) 185 sc191 := bMTof hE hsm ke191 (fun N hN => absurd hN List.not_mem_nil)
set_option maxRecDepth 100000 in
theorem st192 {E : zE} (hE : E.1 < 2147483648) {B : Nat} (hsm : bSO E ctb B (0, smT)) : bMT E ctb (B + 1000000 * (6 + 1)) 185 sc192 := bMTof hE hsm ke192 (fun N hN => by
  cases hN with
  | head => exact bkn_s hE hsm kn192_0
  | tail _ hN =>
    cases hN with
    | head => exact bkn_s hE hsm kn192_1
    | tail _ hN =>
      cases hN with
      | head => exact bkn_s hE hsm kn192_2
      | tail _ hN =>
        cases hN with
        | head => exact bkn_s hE hsm kn192_3
        | tail _ hN =>
          cases hN with
          | head => exact bkn_s hE hsm kn192_4
          | tail _ hN =>
            exact absurd hN List.not_mem_nil)
set_option maxRecDepth 100000 in
theorem st193 {E : zE} (hE : E.1 < 2147483648) {B : Nat} (hsm : bSO E ctb B (0, smT)) : bMT E ctb (B + 1000000 * (0 + 1)) 185 sc193 := bMTof hE hsm ke193 (fun N hN => absurd hN List.not_mem_nil)
set_option maxRecDepth 100000 in
theorem st194 {E : zE} (hE : E.1 < 2147483648) {B : Nat} (hsm : bSO E ctb B (0, smT)) : bMT E ctb (B + 1000000 * (0 + 1)) 185 sc194 := bMTof hE hsm ke194 (fun N hN => absurd hN List.not_mem_nil)
set_option maxRecDepth 100000 in
theorem st195 {E : zE} (hE : E.1 < 2147483648) {B : Nat} (hsm : bSO E ctb B (0, smT)) : bMT E ctb (B + 1000000 * (0 + 1)) 185 sc195 := bMTof hE hsm ke195 (fun N hN => absurd hN List.not_mem_nil)
set_option maxRecDepth 100000 in
theorem st196 {E : zE} (hE : E.1 < 2147483648) {B : Nat} (hsm : bSO E ctb B (0, smT)) : bMT E ctb (B + 1000000 * (0 + 1)) 185 sc196 := bMTof hE hsm ke196 (fun N hN => absurd hN List.not_mem_nil)
set_option maxRecDepth 100000 in
theorem st197 {E : zE} (hE : E.1 < 2147483648) {B : Nat} (hsm : bSO E ctb B (0, smT)) : bMT E ctb (B + 1000000 * (29 + 1)) 185 sc197 := bMTof hE hsm ke197 (fun N hN => by
  cases hN with
  | head => exact bkn_s hE hsm kn197_0
  | tail _ hN =>
    cases hN with
    | head => exact bkn_s hE hsm kn197_1
    | tail _ hN =>
      cases hN with
      | head => exact bkn_s hE hsm kn197_2
      | tail _ hN =>
        cases hN with
        | head => exact bkn_s hE hsm kn197_3
        | tail _ hN =>
          cases hN with
          | head => exact bkn_s hE hsm kn197_4
          | tail _ hN =>
            cases hN with
            | head => exact bkn_s hE hsm kn197_5
            | tail _ hN =>
              cases hN with
              | head => exact bkn_s hE hsm kn197_6
              | tail _ hN =>
                cases hN with
                | head => exact bkn_s hE hsm kn197_7
                | tail _ hN =>
                  cases hN with
                  | head => exact bkn_s hE hsm kn197_8
                  | tail _ hN =>
                    cases hN with
                    | head => exact bkn_s hE hsm kn197_9
                    | tail _ hN =>
                      cases hN with
                      | head => exact bkn_s hE hsm kn197_10
                      | tail _ hN =>
                        cases hN with
                        | head => exact bkn_s hE hsm kn197_11
                        | tail _ hN =>
                          cases hN with
                          | head => exact bkn_s hE hsm kn197_12
                          | tail _ hN =>
                            cases hN with
                            | head => exact bkn_s hE hsm kn197_13
                            | tail _ hN =>
                              cases hN with
                              | head => exact bkn_s hE hsm kn197_14
                              | tail _ hN =>
                                cases hN with
                                | head => exact bkn_s hE hsm kn197_15
                                | tail _ hN =>
                                  cases hN with
                                  | head => exact bkn_s hE hsm kn197_16
                                  | tail _ hN =>
                                    cases hN with
                                    | head => exact bkn_s hE hsm kn197_17
                                    | tail _ hN =>
                                      cases hN with
                                      | head => exact bkn_s hE hsm kn197_18
                                      | tail _ hN =>
                                        cases hN with
                                        | head => exact bkn_s hE hsm kn197_19
                                        | tail _ hN =>
                                          cases hN with
                                          | head => exact bkn_s hE hsm kn197_20
                                          | tail _ hN =>
                                            cases hN with
                                            | head => exact bkn_s hE hsm kn197_21
                                            | tail _ hN =>
                                              cases hN with
                                              | head => exact bkn_s hE hsm kn197_22
                                              | tail _ hN =>
                                                cases hN with
                                                | head => exact bkn_s hE hsm kn197_23
                                                | tail _ hN =>
                                                  cases hN with
                                                  | head => exact bkn_s hE hsm kn197_24
                                                  | tail _ hN =>
                                                    cases hN with
                                                    | head => exact bkn_s hE hsm kn197_25
                                                    | tail _ hN =>
                                                      cases hN with
                                                      | head => exact bkn_s hE hsm kn197_26
                                                      | tail _ hN =>
                                                        cases hN with
                                                        | head => exact bkn_s hE hsm kn197_27
                                                        | tail _ hN =>
                                                          exact absurd hN List.not_mem_nil)
set_option maxRecDepth 100000 in
theorem st198 {E : zE} (hE : E.1 < 2147483648) {B : Nat} (hsm : bSO E ctb B (0, smT)) : bMT E ctb (B + 1000000 * (0 + 1)) 185 sc198 := bMTof hE hsm ke198 (fun N hN => absurd hN List.not_mem_nil)
set_option maxRecDepth 100000 in
theorem st199 {E : zE} (hE : E.1 < 2147483648) {B : Nat} (hsm : bSO E ctb B (0, smT)) : bMT E ctb (B + 1000000 * (0 + 1)) 185 sc199 := bMTof hE hsm ke199 (fun N hN => absurd hN List.not_mem_nil)
set_option maxRecDepth 100000 in
theorem st200 {E : zE} (hE : E.1 < 2147483648) {B : Nat} (hsm : bSO E ctb B (0, smT)) : bMT E ctb (B + 1000000 * (0 + 1)) 185 sc200 := bMTof hE hsm ke200 (fun N hN => absurd hN List.not_mem_nil)
set_option maxRecDepth 100000 in
theorem st201 {E : zE} (hE : E.1 < 2147483648) {B : Nat} (hsm : bSO E ctb B (0, smT)) : bMT E ctb (B + 1000000 * (6 + 1)) 185 sc201 := bMTof hE hsm ke201 (fun N hN => by
  cases hN with
  | head => exact bkn_s hE hsm kn201_0
  | tail _ hN =>
    cases hN with
    | head => exact bkn_s hE hsm kn201_1
    | tail _ hN =>
      cases hN with
      | head => exact bkn_s hE hsm kn201_2
      | tail _ hN =>
        cases hN with
        | head => exact bkn_s hE hsm kn201_3
        | tail _ hN =>
          cases hN with
          | head => exact bkn_s hE hsm kn201_4
          | tail _ hN =>
            exact absurd hN List.not_mem_nil)
set_option maxRecDepth 100000 in
theorem st202 {E : zE} (hE : E.1 < 2147483648) {B : Nat} (hsm : bSO E ctb B (0, smT)) : bMT E ctb (B + 1000000 * (0 + 1)) 185 sc202 := bMTof hE hsm ke202 (fun N hN => absurd hN List.not_mem_nil)
set_option maxRecDepth 100000 in
theorem st203 {E : zE} (hE : E.1 < 2147483648) {B : Nat} (hsm : bSO E ctb B (0, smT)) : bMT E ctb (B + 1000000 * (0 + 1)) 185 sc203 := bMTof hE hsm ke203 (fun N hN => absurd hN List.not_mem_nil)
set_option maxRecDepth 100000 in
theorem st204 {E : zE} (hE : E.1 < 2147483648) {B : Nat} (hsm : bSO E ctb B (0, smT)) : bMT E ctb (B + 1000000 * (6 + 1)) 185 sc204 := bMTof hE hsm ke204 (fun N hN => by
  cases hN with
  | head => exact bkn_s hE hsm kn204_0
  | tail _ hN =>
    cases hN with
    | head => exact bkn_s hE hsm kn204_1
    | tail _ hN =>
      cases hN with
      | head => exact bkn_s hE hsm kn204_2
      | tail _ hN =>
        cases hN with
        | head => exact bkn_s hE hsm kn204_3
        | tail _ hN =>
          cases hN with
          | head => exact bkn_s hE hsm kn204_4
          | tail _ hN =>
            exact absurd hN List.not_mem_nil)
set_option maxRecDepth 100000 in
theorem st205 {E : zE} (hE : E.1 < 2147483648) {B : Nat} (hsm : bSO E ctb B (0, smT)) : bMT E ctb (B + 1000000 * (0 + 1)) 185 sc205 := bMTof hE hsm ke205 (fun N hN => absurd hN List.not_mem_nil)
set_option maxRecDepth 100000 in
theorem st206 {E : zE} (hE : E.1 < 2147483648) {B : Nat} (hsm : bSO E ctb B (0, smT)) : bMT E ctb (B + 1000000 * (0 + 1)) 185 sc206 := bMTof hE hsm ke206 (fun N hN => absurd hN List.not_mem_nil)
set_option maxRecDepth 100000 in
theorem st207 {E : zE} (hE : E.1 < 2147483648) {B : Nat} (hsm : bSO E ctb B (0, smT)) : bMT E ctb (B + 1000000 * (0 + 1)) 185 sc207 := bMTof hE hsm ke207 (fun N hN => absurd hN List.not_mem_nil)
set_option maxRecDepth 100000 in
theorem st208 {E : zE} (hE : E.1 < 2147483648) {B : Nat} (hsm : bSO E ctb B (0, smT)) : bMT E ctb (B + 1000000 * (0 + 1)) 185 sc208 := bMTof hE hsm ke208 (fun N hN => absurd hN List.not_mem_nil)
set_option maxRecDepth 100000 in
theorem st209 {E : zE} (hE : E.1 < 2147483648) {B : Nat} (hsm : bSO E ctb B (0, smT)) : bMT E ctb (B + 1000000 * (5 + 1)) 185 sc209 := bMTof hE hsm ke209 (fun N hN => by
  cases hN with
  | head => exact bkn_s hE hsm kn209_0
  | tail _ hN =>
    cases hN with
    | head => exact bkn_s hE hsm kn209_1
    | tail _ hN =>
      cases hN with
      | head => exact bkn_s hE hsm kn209_2
      | tail _ hN =>
        cases hN with
        | head => exact bkn_s hE hsm kn209_3
        | tail _ hN =>
          exact absurd hN List.not_mem_nil)
set_option maxRecDepth 100000 in
theorem st210 {E : zE} (hE : E.1 < 2147483648) {B : Nat} (hsm : bSO E ctb B (0, smT)) : bMT E ctb (B + 1000000 * (0 + 1)) 185 sc210 := bMTof hE hsm ke210 (fun N hN => absurd hN List.not_mem_nil)
set_option maxRecDepth 100000 in
theorem st211 {E : zE} (hE : E.1 < 2147483648) {B : Nat} (hsm : bSO E ctb B (0, smT)) : bMT E ctb (B + 1000000 * (0 + 1)) 185 sc211 := bMTof hE hsm ke211 (fun N hN => absurd hN List.not_mem_nil)
set_option maxRecDepth 100000 in
theorem st212 {E : zE} (hE : E.1 < 2147483648) {B : Nat} (hsm : bSO E ctb B (0, smT)) : bMT E ctb (B + 1000000 * (0 + 1)) 185 sc212 := bMTof hE hsm ke212 (fun N hN => absurd hN List.not_mem_nil)
set_option maxRecDepth 100000 in
theorem st213 {E : zE} (hE : E.1 < 2147483648) {B : Nat} (hsm : bSO E ctb B (0, smT)) : bMT E ctb (B + 1000000 * (35 + 1)) 185 sc213 := bMTof hE hsm ke213 (fun N hN => by
  cases hN with
  | head => exact bkn_s hE hsm kn213_0
  | tail _ hN =>
    cases hN with
    | head => exact bkn_s hE hsm kn213_1
    | tail _ hN =>
      cases hN with
      | head => exact bkn_s hE hsm kn213_2
      | tail _ hN =>
        cases hN with
        | head => exact bkn_s hE hsm kn213_3
        | tail _ hN =>
          cases hN with
          | head => exact bkn_s hE hsm kn213_4
          | tail _ hN =>
            cases hN with
            | head => exact bkn_s hE hsm kn213_5
            | tail _ hN =>
              cases hN with
              | head => exact bkn_s hE hsm kn213_6
              | tail _ hN =>
                cases hN with
                | head => exact bkn_s hE hsm kn213_7
                | tail _ hN =>
                  cases hN with
                  | head => exact bkn_s hE hsm kn213_8
                  | tail _ hN =>
                    cases hN with
                    | head => exact bkn_s hE hsm kn213_9
                    | tail _ hN =>
                      cases hN with
                      | head => exact bkn_s hE hsm kn213_10
                      | tail _ hN =>
                        cases hN with
                        | head => exact bkn_s hE hsm kn213_11
                        | tail _ hN =>
                          cases hN with
                          | head => exact bkn_s hE hsm kn213_12
                          | tail _ hN =>
                            cases hN with
                            | head => exact bkn_s hE hsm kn213_13
                            | tail _ hN =>
                              cases hN with
                              | head => exact bkn_s hE hsm kn213_14
                              | tail _ hN =>
                                cases hN with
                                | head => exact bkn_s hE hsm kn213_15
                                | tail _ hN =>
                                  cases hN with
                                  | head => exact bkn_s hE hsm kn213_16
                                  | tail _ hN =>
                                    cases hN with
                                    | head => exact bkn_s hE hsm kn213_17
                                    | tail _ hN =>
                                      cases hN with
                                      | head => exact bkn_s hE hsm kn213_18
                                      | tail _ hN =>
                                        cases hN with
                                        | head => exact bkn_s hE hsm kn213_19
                                        | tail _ hN =>
                                          cases hN with
                                          | head => exact bkn_s hE hsm kn213_20
                                          | tail _ hN =>
                                            cases hN with
                                            | head => exact bkn_s hE hsm kn213_21
                                            | tail _ hN =>
                                              cases hN with
                                              | head => exact bkn_s hE hsm kn213_22
                                              | tail _ hN =>
                                                cases hN with
                                                | head => exact bkn_s hE hsm kn213_23
                                                | tail _ hN =>
                                                  cases hN with
                                                  | head => exact bkn_s hE hsm kn213_24
                                                  | tail _ hN =>
                                                    cases hN with
                                                    | head => exact bkn_s hE hsm kn213_25
                                                    | tail _ hN =>
                                                      cases hN with
                                                      | head => exact bkn_s hE hsm kn213_26
                                                      | tail _ hN =>
                                                        cases hN with
                                                        | head => exact bkn_s hE hsm kn213_27
                                                        | tail _ hN =>
                                                          cases hN with
                                                          | head => exact bkn_s hE hsm kn213_28
                                                          | tail _ hN =>
                                                            cases hN with
                                                            | head => exact bkn_s hE hsm kn213_29
                                                            | tail _ hN =>
                                                              cases hN with
                                                              | head => exact bkn_s hE hsm kn213_30
                                                              | tail _ hN =>
                                                                cases hN with
                                                                | head => exact bkn_s hE hsm kn213_31
                                                                | tail _ hN =>
                                                                  cases hN with
                                                                  | head => exact bkn_s hE hsm kn213_32
                                                                  | tail _ hN =>
                                                                    cases hN with
                                                                    | head => exact bkn_s hE hsm kn213_33
                                                                    | tail _ hN =>
                                                                      exact absurd hN List.not_mem_nil)
set_option maxRecDepth 100000 in
theorem st214 {E : zE} (hE : E.1 < 2147483648) {B : Nat} (hsm : bSO E ctb B (0, smT)) : bMT E ctb (B + 1000000 * (0 + 1)) 185 sc214 := bMTof hE hsm ke214 (fun N hN => absurd hN List.not_mem_nil)
set_option maxRecDepth 100000 in
theorem st215 {E : zE} (hE : E.1 < 2147483648) {B : Nat} (hsm : bSO E ctb B (1, smT)) : bMT E ctb (B + 1000000 * (402 + 1)) 186 sc215 := bMTof hE hsm ke215 (fun N hN => by
  cases hN with
  | head => exact bkn_s hE hsm kn215_0
  | tail _ hN =>
    exact absurd hN List.not_mem_nil)
set_option maxRecDepth 100000 in
theorem st216 {E : zE} (hE : E.1 < 2147483648) {B : Nat} (hsm : bSO E ctb B (4, smT)) : bMT E ctb (B + 1000000 * (102 + 1)) 190 sc216 := bMTof hE hsm ke216 (fun N hN => by
  cases hN with
  | head => exact bkn_s hE hsm kn216_0
  | tail _ hN =>
    exact absurd hN List.not_mem_nil)
set_option maxRecDepth 100000 in
theorem st217 {E : zE} (hE : E.1 < 2147483648) {B : Nat} (hsm : bSO E ctb B (5, smT)) : bMT E ctb (B + 1000000 * (14 + 1)) 193 sc217 := bMTof hE hsm ke217 (fun N hN => by
  cases hN with
  | head => exact bkn_s hE hsm kn217_0
  | tail _ hN =>
    exact absurd hN List.not_mem_nil)
set_option maxRecDepth 100000 in
theorem st218 {E : zE} (hE : E.1 < 2147483648) {B : Nat} (hsm : bSO E ctb B (5, smT)) : bMT E ctb (B + 1000000 * (157 + 1)) 194 sc218 := bMTof hE hsm ke218 (fun N hN => by
  cases hN with
  | head => exact bkn_s hE hsm kn218_0
  | tail _ hN =>
    cases hN with
    | head => exact bkn_s hE hsm kn218_1
    | tail _ hN =>
      exact absurd hN List.not_mem_nil)
set_option maxRecDepth 100000 in
theorem st219 {E : zE} (hE : E.1 < 2147483648) {B : Nat} (hsm : bSO E ctb B (5, smT)) : bMT E ctb (B + 1000000 * (25711 + 1)) 195 sc219 := bMTof hE hsm ke219 (fun N hN => by
  cases hN with
  | head => exact bkn_s hE hsm kn219_0
  | tail _ hN =>
    cases hN with
    | head => exact bkn_s hE hsm kn219_1
    | tail _ hN =>
      cases hN with
      | head => exact bkn_s hE hsm kn219_2
      | tail _ hN =>
        exact absurd hN List.not_mem_nil)
set_option maxRecDepth 100000 in
theorem st220 {E : zE} (hE : E.1 < 2147483648) {B : Nat} (hsm : bSO E ctb B (4, smT)) : bMT E ctb (B + 1000000 * (4111 + 1)) 196 sc220 := bMTof hE hsm ke220 (fun N hN => by
  cases hN with
  | head => exact bkn_s hE hsm kn220_0
  | tail _ hN =>
    cases hN with
    | head => exact bkn_s hE hsm kn220_1
    | tail _ hN =>
      exact absurd hN List.not_mem_nil)
set_option maxRecDepth 100000 in
theorem st221 {E : zE} (hE : E.1 < 2147483648) {B : Nat} (hsm : bSO E ctb B (0, smT)) : bMT E ctb (B + 1000000 * (14 + 1)) 197 sc221 := bMTof hE hsm ke221 (fun N hN => by
  cases hN with
  | head => exact bkn_s hE hsm kn221_0
  | tail _ hN =>
    exact absurd hN List.not_mem_nil)
set_option maxRecDepth 100000 in
theorem st222 {E : zE} (hE : E.1 < 2147483648) {B : Nat} (hsm : bSO E ctb B (6, smT)) : bMT E ctb (B + 1000000 * (26 + 1)) 198 sc222 := bMTof hE hsm ke222 (fun N hN => by
  cases hN with
  | head => exact bkn_s hE hsm kn222_0
  | tail _ hN =>
    exact absurd hN List.not_mem_nil)
set_option maxRecDepth 100000 in
theorem st223 {E : zE} (hE : E.1 < 2147483648) {B : Nat} (hsm : bSO E ctb B (5, smT)) : bMT E ctb (B + 1000000 * (26 + 1)) 199 sc223 := bMTof hE hsm ke223 (fun N hN => by
  cases hN with
  | head => exact bkn_s hE hsm kn223_0
  | tail _ hN =>
    exact absurd hN List.not_mem_nil)
set_option maxRecDepth 100000 in
theorem st224 {E : zE} (hE : E.1 < 2147483648) {B : Nat} (hsm : bSO E ctb B (4, smT)) : bMT E ctb (B + 1000000 * (303 + 1)) 200 sc224 := bMTof hE hsm ke224 (fun N hN => by
  cases hN with
  | head => exact bkn_s hE hsm kn224_0
  | tail _ hN =>
    exact absurd hN List.not_mem_nil)
set_option maxRecDepth 100000 in
theorem st225 {E : zE} (hE : E.1 < 2147483648) {B : Nat} (hsm : bSO E ctb B (4, smT)) : bMT E ctb (B + 1000000 * (303 + 1)) 201 sc225 := bMTof hE hsm ke225 (fun N hN => by
  cases hN with
  | head => exact bkn_s hE hsm kn225_0
  | tail _ hN =>
    exact absurd hN List.not_mem_nil)
set_option maxRecDepth 100000 in
theorem st226 {E : zE} (hE : E.1 < 2147483648) {B : Nat} (hsm : bSO E ctb B (5, smT)) : bMT E ctb (B + 1000000 * (102 + 1)) 202 sc226 := bMTof hE hsm ke226 (fun N hN => by
  cases hN with
  | head => exact bkn_s hE hsm kn226_0
  | tail _ hN =>
    exact absurd hN List.not_mem_nil)
set_option maxRecDepth 100000 in
theorem st227 {E : zE} (hE : E.1 < 2147483648) {B : Nat} (hsm : bSO E ctb B (5, smT)) : bMT E ctb (B + 1000000 * (27 + 1)) 203 sc227 := bMTof hE hsm ke227 (fun N hN => by
  cases hN with
  | head => exact bkn_s hE hsm kn227_0
  | tail _ hN =>
    exact absurd hN List.not_mem_nil)
set_option maxRecDepth 100000 in
theorem st228 {E : zE} (hE : E.1 < 2147483648) {B : Nat} (hsm : bSO E ctb B (5, smT)) : bMT E ctb (B + 1000000 * (26 + 1)) 204 sc228 := bMTof hE hsm ke228 (fun N hN => by
  cases hN with
  | head => exact bkn_s hE hsm kn228_0
  | tail _ hN =>
    exact absurd hN List.not_mem_nil)
set_option maxRecDepth 100000 in
theorem st229 {E : zE} (hE : E.1 < 2147483648) {B : Nat} (hsm : bSO E ctb B (6, smT)) : bMT E ctb (B + 1000000 * (14 + 1)) 205 sc229 := bMTof hE hsm ke229 (fun N hN => by
  cases hN with
  | head => exact bkn_s hE hsm kn229_0
  | tail _ hN =>
    exact absurd hN List.not_mem_nil)
set_option maxRecDepth 100000 in
theorem st230 {E : zE} (hE : E.1 < 2147483648) {B : Nat} (hsm : bSO E ctb B (5, smT)) : bMT E ctb (B + 1000000 * (10 + 1)) 206 sc230 := bMTof hE hsm ke230 (fun N hN => by
  cases hN with
  | head => exact bkn_s hE hsm kn230_0
  | tail _ hN =>
    exact absurd hN List.not_mem_nil)
set_option maxRecDepth 100000 in
theorem st231 {E : zE} (hE : E.1 < 2147483648) {B : Nat} (hsm : bSO E ctb B (5, smT)) : bMT E ctb (B + 1000000 * (102 + 1)) 207 sc231 := bMTof hE hsm ke231 (fun N hN => by
  cases hN with
  | head => exact bkn_s hE hsm kn231_0
  | tail _ hN =>
    exact absurd hN List.not_mem_nil)
set_option maxRecDepth 100000 in
theorem st232 {E : zE} (hE : E.1 < 2147483648) {B : Nat} (hsm : bSO E ctb B (0, smT)) : bMT E ctb (B + 1000000 * (3 + 1)) 212 sc232 := bMTof hE hsm ke232 (fun N hN => by
  cases hN with
  | head => exact kc232_0
  | tail _ hN =>
    cases hN with
    | head => exact bkn_s hE hsm kn232_1
    | tail _ hN =>
      exact absurd hN List.not_mem_nil)
set_option maxRecDepth 100000 in
theorem st233 {E : zE} (hE : E.1 < 2147483648) {B : Nat} (hsm : bSO E ctb B (0, smT)) : bMT E ctb (B + 1000000 * (3 + 1)) 213 sc233 := bMTof hE hsm ke233 (fun N hN => by
  cases hN with
  | head => exact kc233_0
  | tail _ hN =>
    cases hN with
    | head => exact bkn_s hE hsm kn233_1
    | tail _ hN =>
      exact absurd hN List.not_mem_nil)
set_option maxRecDepth 100000 in
theorem st234 {E : zE} (hE : E.1 < 2147483648) {B : Nat} (hsm : bSO E ctb B (0, smT)) : bMT E ctb (B + 1000000 * (5 + 1)) 214 sc234 := bMTof hE hsm ke234 (fun N hN => by
  cases hN with
  | head => exact kc234_0
  | tail _ hN =>
    cases hN with
    | head => exact kc234_1
    | tail _ hN =>
      cases hN with
      | head => exact bkn_s hE hsm kn234_2
      | tail _ hN =>
        cases hN with
        | head => exact bkn_s hE hsm kn234_3
        | tail _ hN =>
          exact absurd hN List.not_mem_nil)
set_option maxRecDepth 100000 in
theorem st235 {E : zE} (hE : E.1 < 2147483648) {B : Nat} (hsm : bSO E ctb B (0, smT)) : bMT E ctb (B + 1000000 * (3 + 1)) 215 sc235 := bMTof hE hsm ke235 (fun N hN => by
  cases hN with
  | head => exact kc235_0
  | tail _ hN =>
    cases hN with
    | head => exact bkn_s hE hsm kn235_1
    | tail _ hN =>
      exact absurd hN List.not_mem_nil)
set_option maxRecDepth 100000 in
theorem st236 {E : zE} (hE : E.1 < 2147483648) {B : Nat} (hsm : bSO E ctb B (0, smT)) : bMT E ctb (B + 1000000 * (10 + 1)) 224 sc236 := bMTof hE hsm ke236 (fun N hN => by
  cases hN with
  | head => exact bkn_s hE hsm kn236_0
  | tail _ hN =>
    exact absurd hN List.not_mem_nil)
set_option maxRecDepth 100000 in
theorem st237 {E : zE} (hE : E.1 < 2147483648) {B : Nat} (hsm : bSO E ctb B (0, smT)) : bMT E ctb (B + 1000000 * (10 + 1)) 224 sc237 := bMTof hE hsm ke237 (fun N hN => by
  cases hN with
  | head => exact bkn_s hE hsm kn237_0
  | tail _ hN =>
    exact absurd hN List.not_mem_nil)
set_option maxRecDepth 100000 in
theorem st238 {E : zE} (hE : E.1 < 2147483648) {B : Nat} (hsm : bSO E ctb B (0, smT)) : bMT E ctb (B + 1000000 * (22 + 1)) 230 sc238 := bMTof hE hsm ke238 (fun N hN => by
  cases hN with
  | head => exact bkn_s hE hsm kn238_0
  | tail _ hN =>
    exact absurd hN List.not_mem_nil)
set_option maxRecDepth 100000 in
theorem st239 {E : zE} (hE : E.1 < 2147483648) {B : Nat} (hsm : bSO E ctb B (1, smT)) : bMT E ctb (B + 1000000 * (401 + 1)) 235 sc239 := bMTof hE hsm ke239 (fun N hN => by
  cases hN with
  | head => exact bkn_s hE hsm kn239_0
  | tail _ hN =>
    exact absurd hN List.not_mem_nil)
set_option maxRecDepth 100000 in
theorem st240 {E : zE} (hE : E.1 < 2147483648) {B : Nat} (hsm : bSO E ctb B (2, smT)) : bMT E ctb (B + 1000000 * (402 + 1)) 236 sc240 := bMTof hE hsm ke240 (fun N hN => by
  cases hN with
  | head => exact bkn_s hE hsm kn240_0
  | tail _ hN =>
    exact absurd hN List.not_mem_nil)
set_option maxRecDepth 100000 in
theorem st241 {E : zE} (hE : E.1 < 2147483648) {B : Nat} (hsm : bSO E ctb B (0, smT)) : bMT E ctb (B + 1000000 * (0 + 1)) 237 sc241 := bMTof hE hsm ke241 (fun N hN => absurd hN List.not_mem_nil)
set_option maxRecDepth 100000 in
theorem st242 {E : zE} (hE : E.1 < 2147483648) {B : Nat} (hsm : bSO E ctb B (0, smT)) : bMT E ctb (B + 1000000 * (0 + 1)) 237 sc242 := bMTof hE hsm ke242 (fun N hN => absurd hN List.not_mem_nil)
set_option maxRecDepth 100000 in
theorem st243 {E : zE} (hE : E.1 < 2147483648) {B : Nat} (hsm : bSO E ctb B (0, smT)) : bMT E ctb (B + 1000000 * (0 + 1)) 237 sc243 := bMTof hE hsm ke243 (fun N hN => absurd hN List.not_mem_nil)
set_option maxRecDepth 100000 in
theorem st244 {E : zE} (hE : E.1 < 2147483648) {B : Nat} (hsm : bSO E ctb B (0, smT)) : bMT E ctb (B + 1000000 * (0 + 1)) 237 sc244 := bMTof hE hsm ke244 (fun N hN => absurd hN List.not_mem_nil)
set_option maxRecDepth 100000 in
theorem st245 {E : zE} (hE : E.1 < 2147483648) {B : Nat} (hsm : bSO E ctb B (0, smT)) : bMT E ctb (B + 1000000 * (0 + 1)) 237 sc245 := bMTof hE hsm ke245 (fun N hN => absurd hN List.not_mem_nil)
set_option maxRecDepth 100000 in
theorem st246 {E : zE} (hE : E.1 < 2147483648) {B : Nat} (hsm : bSO E ctb B (0, smT)) : bMT E ctb (B + 1000000 * (0 + 1)) 237 sc246 := bMTof hE hsm ke246 (fun N hN => absurd hN List.not_mem_nil)
set_option maxRecDepth 100000 in
theorem st247 {E : zE} (hE : E.1 < 2147483648) {B : Nat} (hsm : bSO E ctb B (0, smT)) : bMT E ctb (B + 1000000 * (0 + 1)) 237 sc247 := bMTof hE hsm ke247 (fun N hN => absurd hN List.not_mem_nil)
set_option maxRecDepth 100000 in
theorem st248 {E : zE} (hE : E.1 < 2147483648) {B : Nat} (hsm : bSO E ctb B (0, smT)) : bMT E ctb (B + 1000000 * (0 + 1)) 237 sc248 := bMTof hE hsm ke248 (fun N hN => absurd hN List.not_mem_nil)
set_option maxRecDepth 100000 in
theorem st249 {E : zE} (hE : E.1 < 2147483648) {B : Nat} (hsm : bSO E ctb B (0, smT)) : bMT E ctb (B + 1000000 * (0 + 1)) 237 sc249 := bMTof hE hsm ke249 (fun N hN => absurd hN List.not_mem_nil)
set_option maxRecDepth 100000 in
theorem st250 {E : zE} (hE : E.1 < 2147483648) {B : Nat} (hsm : bSO E ctb B (0, smT)) : bMT E ctb (B + 1000000 * (0 + 1)) 237 sc250 := bMTof hE hsm ke250 (fun N hN => absurd hN List.not_mem_nil)
set_option maxRecDepth 100000 in
theorem st251 {E : zE} (hE : E.1 < 2147483648) {B : Nat} (hsm : bSO E ctb B (0, smT)) : bMT E ctb (B + 1000000 * (0 + 1)) 237 sc251 := bMTof hE hsm ke251 (fun N hN => absurd hN List.not_mem_nil)
set_option maxRecDepth 100000 in
theorem st252 {E : zE} (hE : E.1 < 2147483648) {B : Nat} (hsm : bSO E ctb B (0, smT)) : bMT E ctb (B + 1000000 * (0 + 1)) 237 sc252 := bMTof hE hsm ke252 (fun N hN => absurd hN List.not_mem_nil)
set_option maxRecDepth 100000 in
theorem st253 {E : zE} (hE : E.1 < 2147483648) {B : Nat} (hsm : bSO E ctb B (0, smT)) : bMT E ctb (B + 1000000 * (0 + 1)) 237 sc253 := bMTof hE hsm ke253 (fun N hN => absurd hN List.not_mem_nil)
set_option maxRecDepth 100000 in
theorem st254 {E : zE} (hE : E.1 < 2147483648) {B : Nat} (hsm : bSO E ctb B (0, smT)) : bMT E ctb (B + 1000000 * (0 + 1)) 237 sc254 := bMTof hE hsm ke254 (fun N hN => absurd hN List.not_mem_nil)
set_option maxRecDepth 100000 in
theorem st255 {E : zE} (hE : E.1 < 2147483648) {B : Nat} (hsm : bSO E ctb B (0, smT)) : bMT E ctb (B + 1000000 * (0 + 1)) 237 sc255 := bMTof hE hsm ke255 (fun N hN => absurd hN List.not_mem_nil)
set_option maxRecDepth 100000 in
theorem st256 {E : zE} (hE : E.1 < 2147483648) {B : Nat} (hsm : bSO E ctb B (0, smT)) : bMT E ctb (B + 1000000 * (0 + 1)) 237 sc256 := bMTof hE hsm ke256 (fun N hN => absurd hN List.not_mem_nil)
set_option maxRecDepth 100000 in
theorem st257 {E : zE} (hE : E.1 < 2147483648) {B : Nat} (hsm : bSO E ctb B (0, smT)) : bMT E ctb (B + 1000000 * (0 + 1)) 237 sc257 := bMTof hE hsm ke257 (fun N hN => absurd hN List.not_mem_nil)
set_option maxRecDepth 100000 in
theorem st258 {E : zE} (hE : E.1 < 2147483648) {B : Nat} (hsm : bSO E ctb B (0, smT)) : bMT E ctb (B + 1000000 * (0 + 1)) 237 sc258 := bMTof hE hsm ke258 (fun N hN => absurd hN List.not_mem_nil)
set_option maxRecDepth 100000 in
theorem st259 {E : zE} (hE : E.1 < 2147483648) {B : Nat} (hsm : bSO E ctb B (0, smT)) : bMT E ctb (B + 1000000 * (0 + 1)) 237 sc259 := bMTof hE hsm ke259 (fun N hN => absurd hN List.not_mem_nil)
set_option maxRecDepth 100000 in
theorem st260 {E : zE} (hE : E.1 < 2147483648) {B : Nat} (hsm : bSO E ctb B (0, smT)) : bMT E ctb (B + 1000000 * (0 + 1)) 237 sc260 := bMTof hE hsm ke260 (fun N hN => absurd hN List.not_mem_nil)
set_option maxRecDepth 100000 in
theorem st261 {E : zE} (hE : E.1 < 2147483648) {B : Nat} (hsm : bSO E ctb B (0, smT)) : bMT E ctb (B + 1000000 * (0 + 1)) 237 sc261 := bMTof hE hsm ke261 (fun N hN => absurd hN List.not_mem_nil)
set_option maxRecDepth 100000 in
theorem st262 {E : zE} (hE : E.1 < 2147483648) {B : Nat} (hsm : bSO E ctb B (0, smT)) : bMT E ctb (B + 1000000 * (0 + 1)) 237 sc262 := bMTof hE hsm ke262 (fun N hN => absurd hN List.not_mem_nil)
set_option maxRecDepth 100000 in
theorem st263 {E : zE} (hE : E.1 < 2147483648) {B : Nat} (hsm : bSO E ctb B (0, smT)) : bMT E ctb (B + 1000000 * (0 + 1)) 237 sc263 := bMTof hE hsm ke263 (fun N hN => absurd hN List.not_mem_nil)
set_option maxRecDepth 100000 in
theorem st264 {E : zE} (hE : E.1 < 2147483648) {B : Nat} (hsm : bSO E ctb B (0, smT)) : bMT E ctb (B + 1000000 * (0 + 1)) 237 sc264 := bMTof hE hsm ke264 (fun N hN => absurd hN List.not_mem_nil)
set_option maxRecDepth 100000 in
theorem st265 {E : zE} (hE : E.1 < 2147483648) {B : Nat} (hsm : bSO E ctb B (0, smT)) : bMT E ctb (B + 1000000 * (0 + 1)) 237 sc265 := bMTof hE hsm ke265 (fun N hN => absurd hN List.not_mem_nil)
set_option maxRecDepth 100000 in
theorem st266 {E : zE} (hE : E.1 < 2147483648) {B : Nat} (hsm : bSO E ctb B (2, smT)) : bMT E ctb (B + 1000000 * (399 + 1)) 240 sc266 := bMTof hE hsm ke266 (fun N hN => by
  cases hN with
  | head => exact bkn_s hE hsm kn266_0
  | tail _ hN =>
    exact absurd hN List.not_mem_nil)
set_option maxRecDepth 100000 in
theorem st267 {E : zE} (hE : E.1 < 2147483648) {B : Nat} (hsm : bSO E ctb B (2, smT)) : bMT E ctb (B + 1000000 * (402 + 1)) 240 sc267 := bMTof hE hsm ke267 (fun N hN => by
  cases hN with
  | head => exact bkn_s hE hsm kn267_0
  | tail _ hN =>
    exact absurd hN List.not_mem_nil)
set_option maxRecDepth 100000 in
theorem st268 {E : zE} (hE : E.1 < 2147483648) {B : Nat} (hsm : bSO E ctb B (2, smT)) : bMT E ctb (B + 1000000 * (399 + 1)) 240 sc268 := bMTof hE hsm ke268 (fun N hN => by
  cases hN with
  | head => exact bkn_s hE hsm kn268_0
  | tail _ hN =>
    exact absurd hN List.not_mem_nil)
set_option maxRecDepth 100000 in
theorem st269 {E : zE} (hE : E.1 < 2147483648) {B : Nat} (hsm : bSO E ctb B (2, smT)) : bMT E ctb (B + 1000000 * (398 + 1)) 240 sc269 := bMTof hE hsm ke269 (fun N hN => by
  cases hN with
  | head => exact bkn_s hE hsm kn269_0
  | tail _ hN =>
    exact absurd hN List.not_mem_nil)
set_option maxRecDepth 100000 in
theorem st270 {E : zE} (hE : E.1 < 2147483648) {B : Nat} (hsm : bSO E ctb B (2, smT)) : bMT E ctb (B + 1000000 * (397 + 1)) 240 sc270 := bMTof hE hsm ke270 (fun N hN => by
  cases hN with
  | head => exact bkn_s hE hsm kn270_0
  | tail _ hN =>
    exact absurd hN List.not_mem_nil)
set_option maxRecDepth 100000 in
theorem st271 {E : zE} (hE : E.1 < 2147483648) {B : Nat} (hsm : bSO E ctb B (2, smT)) : bMT E ctb (B + 1000000 * (398 + 1)) 240 sc271 := bMTof hE hsm ke271 (fun N hN => by
  cases hN with
  | head => exact bkn_s hE hsm kn271_0
  | tail _ hN =>
    exact absurd hN List.not_mem_nil)
set_option maxRecDepth 100000 in
theorem st272 {E : zE} (hE : E.1 < 2147483648) {B : Nat} (hsm : bSO E ctb B (2, smT)) : bMT E ctb (B + 1000000 * (397 + 1)) 240 sc272 := bMTof hE hsm ke272 (fun N hN => by
  cases hN with
  | head => exact bkn_s hE hsm kn272_0
  | tail _ hN =>
    exact absurd hN List.not_mem_nil)
set_option maxRecDepth 100000 in
theorem st273 {E : zE} (hE : E.1 < 2147483648) {B : Nat} (hsm : bSO E ctb B (2, smT)) : bMT E ctb (B + 1000000 * (398 + 1)) 240 sc273 := bMTof hE hsm ke273 (fun N hN => by
  cases hN with
  | head => exact bkn_s hE hsm kn273_0
  | tail _ hN =>
    exact absurd hN List.not_mem_nil)
set_option maxRecDepth 100000 in
theorem st274 {E : zE} (hE : E.1 < 2147483648) {B : Nat} (hsm : bSO E ctb B (0, smT)) : bMT E ctb (B + 1000000 * (0 + 1)) 243 sc274 := bMTof hE hsm ke274 (fun N hN => absurd hN List.not_mem_nil)
set_option maxRecDepth 100000 in
theorem st275 {E : zE} (hE : E.1 < 2147483648) {B : Nat} (hsm : bSO E ctb B (4, smT)) : bMT E ctb (B + 1000000 * (13 + 1)) 247 sc275 := bMTof hE hsm ke275 (fun N hN => by
  cases hN with
  | head => exact bkn_s hE hsm kn275_0
  | tail _ hN =>
    exact absurd hN List.not_mem_nil)
set_option maxRecDepth 100000 in
theorem st276 {E : zE} (hE : E.1 < 2147483648) {B : Nat} (hsm : bSO E ctb B (5, smT)) : bMT E ctb (B + 1000000 * (39 + 1)) 249 sc276 := bMTof hE hsm ke276 (fun N hN => by
  cases hN with
  | head => exact bkn_s hE hsm kn276_0
  | tail _ hN =>
    cases hN with
    | head => exact bkn_s hE hsm kn276_1
    | tail _ hN =>
      exact absurd hN List.not_mem_nil)
set_option maxRecDepth 100000 in
theorem st293 {E : zE} (hE : E.1 < 2147483648) {B : Nat} (hsm : bSO E ctb B (3, smT)) : bMT E ctb (B + 1000000 * (0 + 1)) 256 sc293 := bMTof hE hsm ke293 (fun N hN => absurd hN List.not_mem_nil)
set_option maxRecDepth 100000 in
theorem st294 {E : zE} (hE : E.1 < 2147483648) {B : Nat} (hsm : bSO E ctb B (4, smT)) : bMT E ctb (B + 1000000 * (394 + 1)) 257 sc294 := bMTof hE hsm ke294 (fun N hN => by
  cases hN with
  | head => exact bkn_s hE hsm kn294_0
  | tail _ hN =>
    exact absurd hN List.not_mem_nil)
set_option maxRecDepth 100000 in
theorem st295 {E : zE} (hE : E.1 < 2147483648) {B : Nat} (hsm : bSO E ctb B (23, smT)) : bMT E ctb (B + 1000000 * (0 + 1)) 259 sc295 := bMTof hE hsm ke295 (fun N hN => absurd hN List.not_mem_nil)
set_option maxRecDepth 100000 in
theorem st296 {E : zE} (hE : E.1 < 2147483648) {B : Nat} (hsm : bSO E ctb B (20, smT)) : bMT E ctb (B + 1000000 * (0 + 1)) 259 sc296 := bMTof hE hsm ke296 (fun N hN => absurd hN List.not_mem_nil)
set_option maxRecDepth 100000 in
theorem st297 {E : zE} (hE : E.1 < 2147483648) {B : Nat} (hsm : bSO E ctb B (17, smT)) : bMT E ctb (B + 1000000 * (0 + 1)) 259 sc297 := bMTof hE hsm ke297 (fun N hN => absurd hN List.not_mem_nil)
set_option maxRecDepth 100000 in
theorem st298 {E : zE} (hE : E.1 < 2147483648) {B : Nat} (hsm : bSO E ctb B (14, smT)) : bMT E ctb (B + 1000000 * (0 + 1)) 259 sc298 := bMTof hE hsm ke298 (fun N hN => absurd hN List.not_mem_nil)
set_option maxRecDepth 100000 in
theorem st299 {E : zE} (hE : E.1 < 2147483648) {B : Nat} (hsm : bSO E ctb B (11, smT)) : bMT E ctb (B + 1000000 * (0 + 1)) 259 sc299 := bMTof hE hsm ke299 (fun N hN => absurd hN List.not_mem_nil)
set_option maxRecDepth 100000 in
theorem st300 {E : zE} (hE : E.1 < 2147483648) {B : Nat} (hsm : bSO E ctb B (8, smT)) : bMT E ctb (B + 1000000 * (0 + 1)) 259 sc300 := bMTof hE hsm ke300 (fun N hN => absurd hN List.not_mem_nil)
set_option maxRecDepth 100000 in
theorem st301 {E : zE} (hE : E.1 < 2147483648) {B : Nat} (hsm : bSO E ctb B (5, smT)) : bMT E ctb (B + 1000000 * (0 + 1)) 259 sc301 := bMTof hE hsm ke301 (fun N hN => absurd hN List.not_mem_nil)
set_option maxRecDepth 100000 in
theorem st302 {E : zE} (hE : E.1 < 2147483648) {B : Nat} (hsm : bSO E ctb B (24, smT)) : bMT E ctb (B + 1000000 * (394 + 1)) 260 sc302 := bMTof hE hsm ke302 (fun N hN => by
  cases hN with
  | head => exact bkn_s hE hsm kn302_0
  | tail _ hN =>
    exact absurd hN List.not_mem_nil)
set_option maxRecDepth 100000 in
theorem st303 {E : zE} (hE : E.1 < 2147483648) {B : Nat} (hsm : bSO E ctb B (21, smT)) : bMT E ctb (B + 1000000 * (394 + 1)) 260 sc303 := bMTof hE hsm ke303 (fun N hN => by
  cases hN with
  | head => exact bkn_s hE hsm kn303_0
  | tail _ hN =>
    exact absurd hN List.not_mem_nil)
set_option maxRecDepth 100000 in
theorem st304 {E : zE} (hE : E.1 < 2147483648) {B : Nat} (hsm : bSO E ctb B (18, smT)) : bMT E ctb (B + 1000000 * (392 + 1)) 260 sc304 := bMTof hE hsm ke304 (fun N hN => by
  cases hN with
  | head => exact bkn_s hE hsm kn304_0
  | tail _ hN =>
    exact absurd hN List.not_mem_nil)
set_option maxRecDepth 100000 in
theorem st305 {E : zE} (hE : E.1 < 2147483648) {B : Nat} (hsm : bSO E ctb B (15, smT)) : bMT E ctb (B + 1000000 * (392 + 1)) 260 sc305 := bMTof hE hsm ke305 (fun N hN => by
  cases hN with
  | head => exact bkn_s hE hsm kn305_0
  | tail _ hN =>
    exact absurd hN List.not_mem_nil)
set_option maxRecDepth 100000 in
theorem st306 {E : zE} (hE : E.1 < 2147483648) {B : Nat} (hsm : bSO E ctb B (12, smT)) : bMT E ctb (B + 1000000 * (394 + 1)) 260 sc306 := bMTof hE hsm ke306 (fun N hN => by
  cases hN with
  | head => exact bkn_s hE hsm kn306_0
  | tail _ hN =>
    exact absurd hN List.not_mem_nil)
set_option maxRecDepth 100000 in
theorem st307 {E : zE} (hE : E.1 < 2147483648) {B : Nat} (hsm : bSO E ctb B (9, smT)) : bMT E ctb (B + 1000000 * (394 + 1)) 260 sc307 := bMTof hE hsm ke307 (fun N hN => by
  cases hN with
  | head => exact bkn_s hE hsm kn307_0
  | tail _ hN =>
    exact absurd hN List.not_mem_nil)
set_option maxRecDepth 100000 in
theorem st308 {E : zE} (hE : E.1 < 2147483648) {B : Nat} (hsm : bSO E ctb B (6, smT)) : bMT E ctb (B + 1000000 * (394 + 1)) 260 sc308 := bMTof hE hsm ke308 (fun N hN => by
  cases hN with
  | head => exact bkn_s hE hsm kn308_0
  | tail _ hN =>
    exact absurd hN List.not_mem_nil)
set_option maxRecDepth 100000 in
theorem st309 {E : zE} (hE : E.1 < 2147483648) {B : Nat} (hsm : bSO E ctb B (25, smT)) : bMT E ctb (B + 1000000 * (394 + 1)) 261 sc309 := bMTof hE hsm ke309 (fun N hN => by
  cases hN with
  | head => exact bkn_s hE hsm kn309_0
  | tail _ hN =>
    exact absurd hN List.not_mem_nil)
set_option maxRecDepth 100000 in
theorem st310 {E : zE} (hE : E.1 < 2147483648) {B : Nat} (hsm : bSO E ctb B (22, smT)) : bMT E ctb (B + 1000000 * (394 + 1)) 261 sc310 := bMTof hE hsm ke310 (fun N hN => by
  cases hN with
  | head => exact bkn_s hE hsm kn310_0
  | tail _ hN =>
    exact absurd hN List.not_mem_nil)
set_option maxRecDepth 100000 in
theorem st311 {E : zE} (hE : E.1 < 2147483648) {B : Nat} (hsm : bSO E ctb B (19, smT)) : bMT E ctb (B + 1000000 * (393 + 1)) 261 sc311 := bMTof hE hsm ke311 (fun N hN => by
  cases hN with
  | head => exact bkn_s hE hsm kn311_0
  | tail _ hN =>
    exact absurd hN List.not_mem_nil)
set_option maxRecDepth 100000 in
theorem st312 {E : zE} (hE : E.1 < 2147483648) {B : Nat} (hsm : bSO E ctb B (16, smT)) : bMT E ctb (B + 1000000 * (392 + 1)) 261 sc312 := bMTof hE hsm ke312 (fun N hN => by
  cases hN with
  | head => exact bkn_s hE hsm kn312_0
  | tail _ hN =>
    exact absurd hN List.not_mem_nil)
set_option maxRecDepth 100000 in
theorem st313 {E : zE} (hE : E.1 < 2147483648) {B : Nat} (hsm : bSO E ctb B (13, smT)) : bMT E ctb (B + 1000000 * (393 + 1)) 261 sc313 := bMTof hE hsm ke313 (fun N hN => by
  cases hN with
  | head => exact bkn_s hE hsm kn313_0
  | tail _ hN =>
    exact absurd hN List.not_mem_nil)
set_option maxRecDepth 100000 in
theorem st314 {E : zE} (hE : E.1 < 2147483648) {B : Nat} (hsm : bSO E ctb B (10, smT)) : bMT E ctb (B + 1000000 * (394 + 1)) 261 sc314 := bMTof hE hsm ke314 (fun N hN => by
  cases hN with
  | head => exact bkn_s hE hsm kn314_0
  | tail _ hN =>
    exact absurd hN List.not_mem_nil)
set_option maxRecDepth 100000 in
theorem st315 {E : zE} (hE : E.1 < 2147483648) {B : Nat} (hsm : bSO E ctb B (7, smT)) : bMT E ctb (B + 1000000 * (394 + 1)) 261 sc315 := bMTof hE hsm ke315 (fun N hN => by
  cases hN with
  | head => exact bkn_s hE hsm kn315_0
  | tail _ hN =>
    exact absurd hN List.not_mem_nil)
set_option maxRecDepth 100000 in
theorem st316 {E : zE} (hE : E.1 < 2147483648) {B : Nat} (hsm : bSO E ctb B (26, smT)) : bMT E ctb (B + 1000000 * (0 + 1)) 262 sc316 := bMTof hE hsm ke316 (fun N hN => absurd hN List.not_mem_nil)
set_option maxRecDepth 100000 in
theorem st317 {E : zE} (hE : E.1 < 2147483648) {B : Nat} (hsm : bSO E ctb B (26, smT)) : bMT E ctb (B + 1000000 * (0 + 1)) 262 sc317 := bMTof hE hsm ke317 (fun N hN => absurd hN List.not_mem_nil)
set_option maxRecDepth 100000 in
theorem st318 {E : zE} (hE : E.1 < 2147483648) {B : Nat} (hsm : bSO E ctb B (26, smT)) : bMT E ctb (B + 1000000 * (0 + 1)) 262 sc318 := bMTof hE hsm ke318 (fun N hN => absurd hN List.not_mem_nil)
set_option maxRecDepth 100000 in
theorem st319 {E : zE} (hE : E.1 < 2147483648) {B : Nat} (hsm : bSO E ctb B (26, smT)) : bMT E ctb (B + 1000000 * (0 + 1)) 262 sc319 := bMTof hE hsm ke319 (fun N hN => absurd hN List.not_mem_nil)
set_option maxRecDepth 100000 in
theorem st320 {E : zE} (hE : E.1 < 2147483648) {B : Nat} (hsm : bSO E ctb B (26, smT)) : bMT E ctb (B + 1000000 * (0 + 1)) 262 sc320 := bMTof hE hsm ke320 (fun N hN => absurd hN List.not_mem_nil)
set_option maxRecDepth 100000 in
theorem st321 {E : zE} (hE : E.1 < 2147483648) {B : Nat} (hsm : bSO E ctb B (26, smT)) : bMT E ctb (B + 1000000 * (0 + 1)) 262 sc321 := bMTof hE hsm ke321 (fun N hN => absurd hN List.not_mem_nil)
set_option maxRecDepth 100000 in
theorem st322 {E : zE} (hE : E.1 < 2147483648) {B : Nat} (hsm : bSO E ctb B (26, smT)) : bMT E ctb (B + 1000000 * (0 + 1)) 262 sc322 := bMTof hE hsm ke322 (fun N hN => absurd hN List.not_mem_nil)
set_option maxRecDepth 100000 in
theorem st323 {E : zE} (hE : E.1 < 2147483648) {B : Nat} (hsm : bSO E ctb B (26, smT)) : bMT E ctb (B + 1000000 * (0 + 1)) 262 sc323 := bMTof hE hsm ke323 (fun N hN => absurd hN List.not_mem_nil)
set_option maxRecDepth 100000 in
theorem st324 {E : zE} (hE : E.1 < 2147483648) {B : Nat} (hsm : bSO E ctb B (26, smT)) : bMT E ctb (B + 1000000 * (0 + 1)) 262 sc324 := bMTof hE hsm ke324 (fun N hN => absurd hN List.not_mem_nil)
set_option maxRecDepth 100000 in
theorem st325 {E : zE} (hE : E.1 < 2147483648) {B : Nat} (hsm : bSO E ctb B (26, smT)) : bMT E ctb (B + 1000000 * (0 + 1)) 262 sc325 := bMTof hE hsm ke325 (fun N hN => absurd hN List.not_mem_nil)
set_option maxRecDepth 100000 in
theorem st326 {E : zE} (hE : E.1 < 2147483648) {B : Nat} (hsm : bSO E ctb B (26, smT)) : bMT E ctb (B + 1000000 * (0 + 1)) 262 sc326 := bMTof hE hsm ke326 (fun N hN => absurd hN List.not_mem_nil)
set_option maxRecDepth 100000 in
theorem st327 {E : zE} (hE : E.1 < 2147483648) {B : Nat} (hsm : bSO E ctb B (26, smT)) : bMT E ctb (B + 1000000 * (0 + 1)) 262 sc327 := bMTof hE hsm ke327 (fun N hN => absurd hN List.not_mem_nil)
set_option maxRecDepth 100000 in
theorem st340 {E : zE} (hE : E.1 < 2147483648) {B : Nat} (hsm : bSO E ctb B (8, smT)) : bMT E ctb (B + 1000000 * (16 + 1)) 264 sc340 := bMTof hE hsm ke340 (fun N hN => by
  cases hN with
  | head => exact bkn_s hE hsm kn340_0
  | tail _ hN =>
    cases hN with
    | head => exact bkn_s hE hsm kn340_1
    | tail _ hN =>
      cases hN with
      | head => exact bkn_s hE hsm kn340_2
      | tail _ hN =>
        cases hN with
        | head => exact bkn_s hE hsm kn340_3
        | tail _ hN =>
          cases hN with
          | head => exact bkn_s hE hsm kn340_4
          | tail _ hN =>
            cases hN with
            | head => exact bkn_s hE hsm kn340_5
            | tail _ hN =>
              cases hN with
              | head => exact bkn_s hE hsm kn340_6
              | tail _ hN =>
                cases hN with
                | head => exact bkn_s hE hsm kn340_7
                | tail _ hN =>
                  cases hN with
                  | head => exact bkn_s hE hsm kn340_8
                  | tail _ hN =>
                    cases hN with
                    | head => exact bkn_s hE hsm kn340_9
                    | tail _ hN =>
                      cases hN with
                      | head => exact bkn_s hE hsm kn340_10
                      | tail _ hN =>
                        cases hN with
                        | head => exact bkn_s hE hsm kn340_11
                        | tail _ hN =>
                          cases hN with
                          | head => exact bkn_s hE hsm kn340_12
                          | tail _ hN =>
                            cases hN with
                            | head => exact bkn_s hE hsm kn340_13
                            | tail _ hN =>
                              cases hN with
                              | head => exact bkn_s hE hsm kn340_14
                              | tail _ hN =>
                                exact absurd hN List.not_mem_nil)
set_option maxRecDepth 100000 in
theorem st341 {E : zE} (hE : E.1 < 2147483648) {B : Nat} (hsm : bSO E ctb B (42, smT)) : bMT E ctb (B + 1000000 * (14 + 1)) 264 sc341 := bMTof hE hsm ke341 (fun N hN => by
  cases hN with
  | head => exact bkn_s hE hsm kn341_0
  | tail _ hN =>
    cases hN with
    | head => exact bkn_s hE hsm kn341_1
    | tail _ hN =>
      cases hN with
      | head => exact bkn_s hE hsm kn341_2
      | tail _ hN =>
        cases hN with
        | head => exact bkn_s hE hsm kn341_3
        | tail _ hN =>
          cases hN with
          | head => exact bkn_s hE hsm kn341_4
          | tail _ hN =>
            cases hN with
            | head => exact bkn_s hE hsm kn341_5
            | tail _ hN =>
              cases hN with
              | head => exact bkn_s hE hsm kn341_6
              | tail _ hN =>
                cases hN with
                | head => exact bkn_s hE hsm kn341_7
                | tail _ hN =>
                  cases hN with
                  | head => exact bkn_s hE hsm kn341_8
                  | tail _ hN =>
                    cases hN with
                    | head => exact bkn_s hE hsm kn341_9
                    | tail _ hN =>
                      cases hN with
                      | head => exact bkn_s hE hsm kn341_10
                      | tail _ hN =>
                        cases hN with
                        | head => exact bkn_s hE hsm kn341_11
                        | tail _ hN =>
                          cases hN with
                          | head => exact bkn_s hE hsm kn341_12
                          | tail _ hN =>
                            exact absurd hN List.not_mem_nil)
set_option maxRecDepth 100000 in
theorem st342 {E : zE} (hE : E.1 < 2147483648) {B : Nat} (hsm : bSO E ctb B (9, smT)) : bMT E ctb (B + 1000000 * (5 + 1)) 265 sc342 := bMTof hE hsm ke342 (fun N hN => by
  cases hN with
  | head => exact kc342_0
  | tail _ hN =>
    cases hN with
    | head => exact bkn_s hE hsm kn342_1
    | tail _ hN =>
      cases hN with
      | head => exact kc342_2
      | tail _ hN =>
        cases hN with
        | head => exact bkn_s hE hsm kn342_3
        | tail _ hN =>
          cases hN with
          | head => exact kc342_4
          | tail _ hN =>
            cases hN with
            | head => exact bkn_s hE hsm kn342_5
            | tail _ hN =>
              exact absurd hN List.not_mem_nil)
set_option maxRecDepth 100000 in
theorem st343 {E : zE} (hE : E.1 < 2147483648) {B : Nat} (hsm : bSO E ctb B (43, smT)) : bMT E ctb (B + 1000000 * (3 + 1)) 266 sc343 := bMTof hE hsm ke343 (fun N hN => by
  cases hN with
  | head => exact kc343_0
  | tail _ hN =>
    cases hN with
    | head => exact bkn_s hE hsm kn343_1
    | tail _ hN =>
      cases hN with
      | head => exact kc343_2
      | tail _ hN =>
        cases hN with
        | head => exact bkn_s hE hsm kn343_3
        | tail _ hN =>
          cases hN with
          | head => exact kc343_4
          | tail _ hN =>
            cases hN with
            | head => exact bkn_s hE hsm kn343_5
            | tail _ hN =>
              cases hN with
              | head => exact kc343_6
              | tail _ hN =>
                cases hN with
                | head => exact bkn_s hE hsm kn343_7
                | tail _ hN =>
                  cases hN with
                  | head => exact kc343_8
                  | tail _ hN =>
                    cases hN with
                    | head => exact bkn_s hE hsm kn343_9
                    | tail _ hN =>
                      cases hN with
                      | head => exact kc343_10
                      | tail _ hN =>
                        cases hN with
                        | head => exact bkn_s hE hsm kn343_11
                        | tail _ hN =>
                          cases hN with
                          | head => exact kc343_12
                          | tail _ hN =>
                            cases hN with
                            | head => exact bkn_s hE hsm kn343_13
                            | tail _ hN =>
                              cases hN with
                              | head => exact kc343_14
                              | tail _ hN =>
                                cases hN with
                                | head => exact bkn_s hE hsm kn343_15
                                | tail _ hN =>
                                  cases hN with
                                  | head => exact kc343_16
                                  | tail _ hN =>
                                    cases hN with
                                    | head => exact bkn_s hE hsm kn343_17
                                    | tail _ hN =>
                                      cases hN with
                                      | head => exact kc343_18
                                      | tail _ hN =>
                                        cases hN with
                                        | head => exact bkn_s hE hsm kn343_19
                                        | tail _ hN =>
                                          cases hN with
                                          | head => exact kc343_20
                                          | tail _ hN =>
                                            cases hN with
                                            | head => exact bkn_s hE hsm kn343_21
                                            | tail _ hN =>
                                              cases hN with
                                              | head => exact kc343_22
                                              | tail _ hN =>
                                                cases hN with
                                                | head => exact bkn_s hE hsm kn343_23
                                                | tail _ hN =>
                                                  cases hN with
                                                  | head => exact kc343_24
                                                  | tail _ hN =>
                                                    cases hN with
                                                    | head => exact bkn_s hE hsm kn343_25
                                                    | tail _ hN =>
                                                      exact absurd hN List.not_mem_nil)
set_option maxRecDepth 100000 in
theorem st345 {E : zE} (hE : E.1 < 2147483648) {B : Nat} (hsm : bSO E ctb B (4, smT)) : bMT E ctb (B + 1000000 * (14 + 1)) 269 sc345 := bMTof hE hsm ke345 (fun N hN => by
  cases hN with
  | head => exact bkn_s hE hsm kn345_0
  | tail _ hN =>
    exact absurd hN List.not_mem_nil)
set_option maxRecDepth 100000 in
theorem st346 {E : zE} (hE : E.1 < 2147483648) {B : Nat} (hsm : bSO E ctb B (4, smT)) : bMT E ctb (B + 1000000 * (14 + 1)) 269 sc346 := bMTof hE hsm ke346 (fun N hN => by
  cases hN with
  | head => exact bkn_s hE hsm kn346_0
  | tail _ hN =>
    exact absurd hN List.not_mem_nil)
set_option maxRecDepth 100000 in
theorem st347 {E : zE} (hE : E.1 < 2147483648) {B : Nat} (hsm : bSO E ctb B (4, smT)) : bMT E ctb (B + 1000000 * (14 + 1)) 269 sc347 := bMTof hE hsm ke347 (fun N hN => by
  cases hN with
  | head => exact bkn_s hE hsm kn347_0
  | tail _ hN =>
    exact absurd hN List.not_mem_nil)
set_option maxRecDepth 100000 in
theorem st348 {E : zE} (hE : E.1 < 2147483648) {B : Nat} (hsm : bSO E ctb B (4, smT)) : bMT E ctb (B + 1000000 * (14 + 1)) 269 sc348 := bMTof hE hsm ke348 (fun N hN => by
  cases hN with
  | head => exact bkn_s hE hsm kn348_0
  | tail _ hN =>
    exact absurd hN List.not_mem_nil)
set_option maxRecDepth 100000 in
theorem st349 {E : zE} (hE : E.1 < 2147483648) {B : Nat} (hsm : bSO E ctb B (4, smT)) : bMT E ctb (B + 1000000 * (14 + 1)) 269 sc349 := bMTof hE hsm ke349 (fun N hN => by
  cases hN with
  | head => exact bkn_s hE hsm kn349_0
  | tail _ hN =>
    exact absurd hN List.not_mem_nil)
set_option maxRecDepth 100000 in
theorem st350 {E : zE} (hE : E.1 < 2147483648) {B : Nat} (hsm : bSO E ctb B (3, smT)) : bMT E ctb (B + 1000000 * (10 + 1)) 270 sc350 := bMTof hE hsm ke350 (fun N hN => by
  cases hN with
  | head => exact bkn_s hE hsm kn350_0
  | tail _ hN =>
    exact absurd hN List.not_mem_nil)
set_option maxRecDepth 100000 in
theorem st351 {E : zE} (hE : E.1 < 2147483648) {B : Nat} (hsm : bSO E ctb B (1, smT)) : bMT E ctb (B + 1000000 * (14 + 1)) 271 sc351 := bMTof hE hsm ke351 (fun N hN => by
  cases hN with
  | head => exact bkn_s hE hsm kn351_0
  | tail _ hN =>
    exact absurd hN List.not_mem_nil)
set_option maxRecDepth 100000 in
theorem st352 {E : zE} (hE : E.1 < 2147483648) {B : Nat} (hsm : bSO E ctb B (5, smT)) : bMT E ctb (B + 1000000 * (0 + 1)) 272 sc352 := bMTof hE hsm ke352 (fun N hN => absurd hN List.not_mem_nil)
set_option maxRecDepth 100000 in
theorem st353 {E : zE} (hE : E.1 < 2147483648) {B : Nat} (hsm : bSO E ctb B (2, smT)) : bMT E ctb (B + 1000000 * (0 + 1)) 273 sc353 := bMTof hE hsm ke353 (fun N hN => absurd hN List.not_mem_nil)
set_option maxRecDepth 100000 in
theorem st354 {E : zE} (hE : E.1 < 2147483648) {B : Nat} (hsm : bSO E ctb B (2, smT)) : bMT E ctb (B + 1000000 * (14 + 1)) 274 sc354 := bMTof hE hsm ke354 (fun N hN => by
  cases hN with
  | head => exact bkn_s hE hsm kn354_0
  | tail _ hN =>
    exact absurd hN List.not_mem_nil)
set_option maxRecDepth 100000 in
theorem st355 {E : zE} (hE : E.1 < 2147483648) {B : Nat} (hsm : bSO E ctb B (3, smT)) : bMT E ctb (B + 1000000 * (0 + 1)) 275 sc355 := bMTof hE hsm ke355 (fun N hN => absurd hN List.not_mem_nil)
set_option maxRecDepth 100000 in
theorem st356 {E : zE} (hE : E.1 < 2147483648) {B : Nat} (hsm : bSO E ctb B (2, smT)) : bMT E ctb (B + 1000000 * (0 + 1)) 276 sc356 := bMTof hE hsm ke356 (fun N hN => absurd hN List.not_mem_nil)
set_option maxRecDepth 100000 in
theorem st357 {E : zE} (hE : E.1 < 2147483648) {B : Nat} (hsm : bSO E ctb B (2, smT)) : bMT E ctb (B + 1000000 * (0 + 1)) 277 sc357 := bMTof hE hsm ke357 (fun N hN => absurd hN List.not_mem_nil)
set_option maxRecDepth 100000 in
theorem st358 {E : zE} (hE : E.1 < 2147483648) {B : Nat} (hsm : bSO E ctb B (5, smT)) : bMT E ctb (B + 1000000 * (0 + 1)) 278 sc358 := bMTof hE hsm ke358 (fun N hN => absurd hN List.not_mem_nil)
set_option maxRecDepth 100000 in
theorem st359 {E : zE} (hE : E.1 < 2147483648) {B : Nat} (hsm : bSO E ctb B (0, smT)) : bMT E ctb (B + 1000000 * (10 + 1)) 279 sc359 := bMTof hE hsm ke359 (fun N hN => by
  cases hN with
  | head => exact bkn_s hE hsm kn359_0
  | tail _ hN =>
    exact absurd hN List.not_mem_nil)
set_option maxRecDepth 100000 in
theorem st360 {E : zE} (hE : E.1 < 2147483648) {B : Nat} (hsm : bSO E ctb B (0, smT)) : bMT E ctb (B + 1000000 * (10 + 1)) 279 sc360 := bMTof hE hsm ke360 (fun N hN => by
  cases hN with
  | head => exact bkn_s hE hsm kn360_0
  | tail _ hN =>
    exact absurd hN List.not_mem_nil)
set_option maxRecDepth 100000 in
theorem st361 {E : zE} (hE : E.1 < 2147483648) {B : Nat} (hsm : bSO E ctb B (0, smT)) : bMT E ctb (B + 1000000 * (10 + 1)) 279 sc361 := bMTof hE hsm ke361 (fun N hN => by
  cases hN with
  | head => exact bkn_s hE hsm kn361_0
  | tail _ hN =>
    exact absurd hN List.not_mem_nil)
set_option maxRecDepth 100000 in
theorem st362 {E : zE} (hE : E.1 < 2147483648) {B : Nat} (hsm : bSO E ctb B (0, smT)) : bMT E ctb (B + 1000000 * (10 + 1)) 279 sc362 := bMTof hE hsm ke362 (fun N hN => by
  cases hN with
  | head => exact bkn_s hE hsm kn362_0
  | tail _ hN =>
    exact absurd hN List.not_mem_nil)
set_option maxRecDepth 100000 in
theorem st363 {E : zE} (hE : E.1 < 2147483648) {B : Nat} (hsm : bSO E ctb B (0, smT)) : bMT E ctb (B + 1000000 * (10 + 1)) 280 sc363 := bMTof hE hsm ke363 (fun N hN => by
  cases hN with
  | head => exact bkn_s hE hsm kn363_0
  | tail _ hN =>
    exact absurd hN List.not_mem_nil)
set_option maxRecDepth 100000 in
theorem st364 {E : zE} (hE : E.1 < 2147483648) {B : Nat} (hsm : bSO E ctb B (0, smT)) : bMT E ctb (B + 1000000 * (397 + 1)) 281 sc364 := bMTof hE hsm ke364 (fun N hN => by
  cases hN with
  | head => exact bkn_s hE hsm kn364_0
  | tail _ hN =>
    exact absurd hN List.not_mem_nil)
set_option maxRecDepth 100000 in
theorem st365 {E : zE} (hE : E.1 < 2147483648) {B : Nat} (hsm : bSO E ctb B (5, smT)) : bMT E ctb (B + 1000000 * (0 + 1)) 282 sc365 := bMTof hE hsm ke365 (fun N hN => absurd hN List.not_mem_nil)
set_option maxRecDepth 100000 in
theorem st366 {E : zE} (hE : E.1 < 2147483648) {B : Nat} (hsm : bSO E ctb B (6, smT)) : bMT E ctb (B + 1000000 * (23 + 1)) 283 sc366 := bMTof hE hsm ke366 (fun N hN => by
  cases hN with
  | head => exact bkn_s hE hsm kn366_0
  | tail _ hN =>
    cases hN with
    | head => exact bkn_s hE hsm kn366_1
    | tail _ hN =>
      exact absurd hN List.not_mem_nil)
set_option maxRecDepth 100000 in
theorem st367 {E : zE} (hE : E.1 < 2147483648) {B : Nat} (hsm : bSO E ctb B (7, smT)) : bMT E ctb (B + 1000000 * (102 + 1)) 284 sc367 := bMTof hE hsm ke367 (fun N hN => by
  cases hN with
  | head => exact bkn_s hE hsm kn367_0
  | tail _ hN =>
    exact absurd hN List.not_mem_nil)
set_option maxRecDepth 100000 in
theorem st368 {E : zE} (hE : E.1 < 2147483648) {B : Nat} (hsm : bSO E ctb B (6, smT)) : bMT E ctb (B + 1000000 * (0 + 1)) 287 sc368 := bMTof hE hsm ke368 (fun N hN => absurd hN List.not_mem_nil)
set_option maxRecDepth 100000 in
theorem st369 {E : zE} (hE : E.1 < 2147483648) {B : Nat} (hsm : bSO E ctb B (2, smT)) : bMT E ctb (B + 1000000 * (0 + 1)) 288 sc369 := bMTof hE hsm ke369 (fun N hN => absurd hN List.not_mem_nil)
set_option maxRecDepth 100000 in
theorem st370 {E : zE} (hE : E.1 < 2147483648) {B : Nat} (hsm : bSO E ctb B (2, smT)) : bMT E ctb (B + 1000000 * (0 + 1)) 290 sc370 := bMTof hE hsm ke370 (fun N hN => absurd hN List.not_mem_nil)
set_option maxRecDepth 100000 in
theorem st371 {E : zE} (hE : E.1 < 2147483648) {B : Nat} (hsm : bSO E ctb B (2, smT)) : bMT E ctb (B + 1000000 * (0 + 1)) 291 sc371 := bMTof hE hsm ke371 (fun N hN => absurd hN List.not_mem_nil)
set_option maxRecDepth 100000 in
theorem st372 {E : zE} (hE : E.1 < 2147483648) {B : Nat} (hsm : bSO E ctb B (2, smT)) : bMT E ctb (B + 1000000 * (0 + 1)) 292 sc372 := bMTof hE hsm ke372 (fun N hN => absurd hN List.not_mem_nil)
set_option maxRecDepth 100000 in
theorem st373 {E : zE} (hE : E.1 < 2147483648) {B : Nat} (hsm : bSO E ctb B (0, smT)) : bMT E ctb (B + 1000000 * (3 + 1)) 293 sc373 := bMTof hE hsm ke373 (fun N hN => by
  cases hN with
  | head => exact kc373_0
  | tail _ hN =>
    cases hN with
    | head => exact bkn_s hE hsm kn373_1
    | tail _ hN =>
      exact absurd hN List.not_mem_nil)
set_option maxRecDepth 100000 in
theorem st374 {E : zE} (hE : E.1 < 2147483648) {B : Nat} (hsm : bSO E ctb B (0, smT)) : bMT E ctb (B + 1000000 * (3 + 1)) 294 sc374 := bMTof hE hsm ke374 (fun N hN => by
  cases hN with
  | head => exact kc374_0
  | tail _ hN =>
    cases hN with
    | head => exact bkn_s hE hsm kn374_1
    | tail _ hN =>
      exact absurd hN List.not_mem_nil)
set_option maxRecDepth 100000 in
theorem st375 {E : zE} (hE : E.1 < 2147483648) {B : Nat} (hsm : bSO E ctb B (7, smT)) : bMT E ctb (B + 1000000 * (102 + 1)) 295 sc375 := bMTof hE hsm ke375 (fun N hN => by
  cases hN with
  | head => exact bkn_s hE hsm kn375_0
  | tail _ hN =>
    exact absurd hN List.not_mem_nil)
set_option maxRecDepth 100000 in
theorem st376 {E : zE} (hE : E.1 < 2147483648) {B : Nat} (hsm : bSO E ctb B (2, smT)) : bMT E ctb (B + 1000000 * (14 + 1)) 296 sc376 := bMTof hE hsm ke376 (fun N hN => by
  cases hN with
  | head => exact bkn_s hE hsm kn376_0
  | tail _ hN =>
    exact absurd hN List.not_mem_nil)
set_option maxRecDepth 100000 in
theorem st377 {E : zE} (hE : E.1 < 2147483648) {B : Nat} (hsm : bSO E ctb B (3, smT)) : bMT E ctb (B + 1000000 * (14 + 1)) 297 sc377 := bMTof hE hsm ke377 (fun N hN => by
  cases hN with
  | head => exact bkn_s hE hsm kn377_0
  | tail _ hN =>
    exact absurd hN List.not_mem_nil)
set_option maxRecDepth 100000 in
theorem st378 {E : zE} (hE : E.1 < 2147483648) {B : Nat} (hsm : bSO E ctb B (2, smT)) : bMT E ctb (B + 1000000 * (10 + 1)) 298 sc378 := bMTof hE hsm ke378 (fun N hN => by
  cases hN with
  | head => exact bkn_s hE hsm kn378_0
  | tail _ hN =>
    exact absurd hN List.not_mem_nil)
set_option maxRecDepth 100000 in
theorem st379 {E : zE} (hE : E.1 < 2147483648) {B : Nat} (hsm : bSO E ctb B (8, smT)) : bMT E ctb (B + 1000000 * (0 + 1)) 299 sc379 := bMTof hE hsm ke379 (fun N hN => absurd hN List.not_mem_nil)
set_option maxRecDepth 100000 in
theorem st380 {E : zE} (hE : E.1 < 2147483648) {B : Nat} (hsm : bSO E ctb B (9, smT)) : bMT E ctb (B + 1000000 * (0 + 1)) 301 sc380 := bMTof hE hsm ke380 (fun N hN => absurd hN List.not_mem_nil)
set_option maxRecDepth 100000 in
theorem st381 {E : zE} (hE : E.1 < 2147483648) {B : Nat} (hsm : bSO E ctb B (9, smT)) : bMT E ctb (B + 1000000 * (14 + 1)) 303 sc381 := bMTof hE hsm ke381 (fun N hN => by
  cases hN with
  | head => exact bkn_s hE hsm kn381_0
  | tail _ hN =>
    exact absurd hN List.not_mem_nil)
set_option maxRecDepth 100000 in
theorem st382 {E : zE} (hE : E.1 < 2147483648) {B : Nat} (hsm : bSO E ctb B (9, smT)) : bMT E ctb (B + 1000000 * (170 + 1)) 304 sc382 := bMTof hE hsm ke382 (fun N hN => by
  cases hN with
  | head => exact bkn_s hE hsm kn382_0
  | tail _ hN =>
    cases hN with
    | head => exact bkn_s hE hsm kn382_1
    | tail _ hN =>
      exact absurd hN List.not_mem_nil)
set_option maxRecDepth 100000 in
theorem st383 {E : zE} (hE : E.1 < 2147483648) {B : Nat} (hsm : bSO E ctb B (9, smT)) : bMT E ctb (B + 1000000 * (2571 + 1)) 306 sc383 := bMTof hE hsm ke383 (fun N hN => by
  cases hN with
  | head => exact bkn_s hE hsm kn383_0
  | tail _ hN =>
    cases hN with
    | head => exact bkn_s hE hsm kn383_1
    | tail _ hN =>
      exact absurd hN List.not_mem_nil)
set_option maxRecDepth 100000 in
theorem st384 {E : zE} (hE : E.1 < 2147483648) {B : Nat} (hsm : bSO E ctb B (5, smT)) : bMT E ctb (B + 1000000 * (57372 + 1)) 307 sc384 := bMTof hE hsm ke384 (fun N hN => by
  cases hN with
  | head => exact bkn_s hE hsm kn384_0
  | tail _ hN =>
    cases hN with
    | head => exact bkn_s hE hsm kn384_1
    | tail _ hN =>
      cases hN with
      | head => exact bkn_s hE hsm kn384_2
      | tail _ hN =>
        exact absurd hN List.not_mem_nil)
set_option maxRecDepth 100000 in
theorem st385 {E : zE} (hE : E.1 < 2147483648) {B : Nat} (hsm : bSO E ctb B (6, smT)) : bMT E ctb (B + 1000000 * (14 + 1)) 308 sc385 := bMTof hE hsm ke385 (fun N hN => by
  cases hN with
  | head => exact bkn_s hE hsm kn385_0
  | tail _ hN =>
    exact absurd hN List.not_mem_nil)
set_option maxRecDepth 100000 in
theorem st386 {E : zE} (hE : E.1 < 2147483648) {B : Nat} (hsm : bSO E ctb B (7, smT)) : bMT E ctb (B + 1000000 * (26 + 1)) 309 sc386 := bMTof hE hsm ke386 (fun N hN => by
  cases hN with
  | head => exact bkn_s hE hsm kn386_0
  | tail _ hN =>
    exact absurd hN List.not_mem_nil)
set_option maxRecDepth 100000 in
theorem st387 {E : zE} (hE : E.1 < 2147483648) {B : Nat} (hsm : bSO E ctb B (8, smT)) : bMT E ctb (B + 1000000 * (2147483646 + 1)) 310 sc387 := bMTof hE hsm ke387 (fun N hN => by
  cases hN with
  | head => exact bkn_s hE hsm kn387_0
  | tail _ hN =>
    exact absurd hN List.not_mem_nil)
set_option maxRecDepth 100000 in
theorem st388 {E : zE} (hE : E.1 < 2147483648) {B : Nat} (hsm : bSO E ctb B (7, smT)) : bMT E ctb (B + 1000000 * (303 + 1)) 311 sc388 := bMTof hE hsm ke388 (fun N hN => by
  cases hN with
  | head => exact bkn_s hE hsm kn388_0
  | tail _ hN =>
    exact absurd hN List.not_mem_nil)
set_option maxRecDepth 100000 in
theorem st389 {E : zE} (hE : E.1 < 2147483648) {B : Nat} (hsm : bSO E ctb B (7, smT)) : bMT E ctb (B + 1000000 * (303 + 1)) 312 sc389 := bMTof hE hsm ke389 (fun N hN => by
  cases hN with
  | head => exact bkn_s hE hsm kn389_0
  | tail _ hN =>
    exact absurd hN List.not_mem_nil)
set_option maxRecDepth 100000 in
theorem st390 {E : zE} (hE : E.1 < 2147483648) {B : Nat} (hsm : bSO E ctb B (7, smT)) : bMT E ctb (B + 1000000 * (102 + 1)) 313 sc390 := bMTof hE hsm ke390 (fun N hN => by
  cases hN with
  | head => exact bkn_s hE hsm kn390_0
  | tail _ hN =>
    exact absurd hN List.not_mem_nil)
set_option maxRecDepth 100000 in
theorem st391 {E : zE} (hE : E.1 < 2147483648) {B : Nat} (hsm : bSO E ctb B (8, smT)) : bMT E ctb (B + 1000000 * (27 + 1)) 314 sc391 := bMTof hE hsm ke391 (fun N hN => by
  cases hN with
  | head => exact bkn_s hE hsm kn391_0
  | tail _ hN =>
    exact absurd hN List.not_mem_nil)
set_option maxRecDepth 100000 in
theorem st392 {E : zE} (hE : E.1 < 2147483648) {B : Nat} (hsm : bSO E ctb B (9, smT)) : bMT E ctb (B + 1000000 * (26 + 1)) 315 sc392 := bMTof hE hsm ke392 (fun N hN => by
  cases hN with
  | head => exact bkn_s hE hsm kn392_0
  | tail _ hN =>
    exact absurd hN List.not_mem_nil)
set_option maxRecDepth 100000 in
theorem st393 {E : zE} (hE : E.1 < 2147483648) {B : Nat} (hsm : bSO E ctb B (10, smT)) : bMT E ctb (B + 1000000 * (0 + 1)) 316 sc393 := bMTof hE hsm ke393 (fun N hN => absurd hN List.not_mem_nil)
set_option maxRecDepth 100000 in
theorem st394 {E : zE} (hE : E.1 < 2147483648) {B : Nat} (hsm : bSO E ctb B (10, smT)) : bMT E ctb (B + 1000000 * (14 + 1)) 317 sc394 := bMTof hE hsm ke394 (fun N hN => by
  cases hN with
  | head => exact bkn_s hE hsm kn394_0
  | tail _ hN =>
    exact absurd hN List.not_mem_nil)
set_option maxRecDepth 100000 in
theorem st395 {E : zE} (hE : E.1 < 2147483648) {B : Nat} (hsm : bSO E ctb B (9, smT)) : bMT E ctb (B + 1000000 * (10 + 1)) 318 sc395 := bMTof hE hsm ke395 (fun N hN => by
  cases hN with
  | head => exact bkn_s hE hsm kn395_0
  | tail _ hN =>
    exact absurd hN List.not_mem_nil)
set_option maxRecDepth 100000 in
theorem st396 {E : zE} (hE : E.1 < 2147483648) {B : Nat} (hsm : bSO E ctb B (7, smT)) : bMT E ctb (B + 1000000 * (102 + 1)) 319 sc396 := bMTof hE hsm ke396 (fun N hN => by
  cases hN with
  | head => exact bkn_s hE hsm kn396_0
  | tail _ hN =>
    exact absurd hN List.not_mem_nil)
set_option maxRecDepth 100000 in
theorem st397 {E : zE} (hE : E.1 < 2147483648) {B : Nat} (hsm : bSO E ctb B (1, smT)) : bMT E ctb (B + 1000000 * (10 + 1)) 320 sc397 := bMTof hE hsm ke397 (fun N hN => by
  cases hN with
  | head => exact bkn_s hE hsm kn397_0
  | tail _ hN =>
    exact absurd hN List.not_mem_nil)
set_option maxRecDepth 100000 in
theorem st398 {E : zE} (hE : E.1 < 2147483648) {B : Nat} (hsm : bSO E ctb B (1, smT)) : bMT E ctb (B + 1000000 * (10 + 1)) 320 sc398 := bMTof hE hsm ke398 (fun N hN => by
  cases hN with
  | head => exact bkn_s hE hsm kn398_0
  | tail _ hN =>
    exact absurd hN List.not_mem_nil)
set_option maxRecDepth 100000 in
theorem st399 {E : zE} (hE : E.1 < 2147483648) {B : Nat} (hsm : bSO E ctb B (2, smT)) : bMT E ctb (B + 1000000 * (10 + 1)) 321 sc399 := bMTof hE hsm ke399 (fun N hN => by
  cases hN with
  | head => exact bkn_s hE hsm kn399_0
  | tail _ hN =>
    exact absurd hN List.not_mem_nil)
set_option maxRecDepth 100000 in
theorem st400 {E : zE} (hE : E.1 < 2147483648) {B : Nat} (hsm : bSO E ctb B (2, smT)) : bMT E ctb (B + 1000000 * (0 + 1)) 322 sc400 := bMTof hE hsm ke400 (fun N hN => absurd hN List.not_mem_nil)
set_option maxRecDepth 100000 in
theorem st401 {E : zE} (hE : E.1 < 2147483648) {B : Nat} (hsm : bSO E ctb B (2, smT)) : bMT E ctb (B + 1000000 * (0 + 1)) 323 sc401 := bMTof hE hsm ke401 (fun N hN => absurd hN List.not_mem_nil)
set_option maxRecDepth 100000 in
theorem st402 {E : zE} (hE : E.1 < 2147483648) {B : Nat} (hsm : bSO E ctb B (2, smT)) : bMT E ctb (B + 1000000 * (127 + 1)) 324 sc402 := bMTof hE hsm ke402 (fun N hN => by
  cases hN with
  | head => exact bkn_s hE hsm kn402_0
  | tail _ hN =>
    cases hN with
    | head => exact bkn_s hE hsm kn402_1
    | tail _ hN =>
      exact absurd hN List.not_mem_nil)
set_option maxRecDepth 100000 in
theorem st403 {E : zE} (hE : E.1 < 2147483648) {B : Nat} (hsm : bSO E ctb B (2, smT)) : bMT E ctb (B + 1000000 * (14 + 1)) 325 sc403 := bMTof hE hsm ke403 (fun N hN => by
  cases hN with
  | head => exact bkn_s hE hsm kn403_0
  | tail _ hN =>
    exact absurd hN List.not_mem_nil)
set_option maxRecDepth 100000 in
theorem st404 {E : zE} (hE : E.1 < 2147483648) {B : Nat} (hsm : bSO E ctb B (2, smT)) : bMT E ctb (B + 1000000 * (183 + 1)) 326 sc404 := bMTof hE hsm ke404 (fun N hN => by
  cases hN with
  | head => exact bkn_s hE hsm kn404_0
  | tail _ hN =>
    cases hN with
    | head => exact bkn_s hE hsm kn404_1
    | tail _ hN =>
      exact absurd hN List.not_mem_nil)
set_option maxRecDepth 100000 in
theorem st405 {E : zE} (hE : E.1 < 2147483648) {B : Nat} (hsm : bSO E ctb B (3, smT)) : bMT E ctb (B + 1000000 * (147 + 1)) 328 sc405 := bMTof hE hsm ke405 (fun N hN => by
  cases hN with
  | head => exact bkn_s hE hsm kn405_0
  | tail _ hN =>
    exact absurd hN List.not_mem_nil)
set_option maxRecDepth 100000 in
theorem st406 {E : zE} (hE : E.1 < 2147483648) {B : Nat} (hsm : bSO E ctb B (3, smT)) : bMT E ctb (B + 1000000 * (4401 + 1)) 330 sc406 := bMTof hE hsm ke406 (fun N hN => by
  cases hN with
  | head => exact bkn_s hE hsm kn406_0
  | tail _ hN =>
    cases hN with
    | head => exact bkn_s hE hsm kn406_1
    | tail _ hN =>
      cases hN with
      | head => exact bkn_s hE hsm kn406_2
      | tail _ hN =>
        cases hN with
        | head => exact bkn_s hE hsm kn406_3
        | tail _ hN =>
          exact absurd hN List.not_mem_nil)
set_option maxRecDepth 100000 in
theorem st407 {E : zE} (hE : E.1 < 2147483648) {B : Nat} (hsm : bSO E ctb B (1, smT)) : bMT E ctb (B + 1000000 * (1067 + 1)) 331 sc407 := bMTof hE hsm ke407 (fun N hN => by
  cases hN with
  | head => exact bkn_s hE hsm kn407_0
  | tail _ hN =>
    cases hN with
    | head => exact bkn_s hE hsm kn407_1
    | tail _ hN =>
      exact absurd hN List.not_mem_nil)
set_option maxRecDepth 100000 in
theorem st408 {E : zE} (hE : E.1 < 2147483648) {B : Nat} (hsm : bSO E ctb B (1, smT)) : bMT E ctb (B + 1000000 * (0 + 1)) 332 sc408 := bMTof hE hsm ke408 (fun N hN => absurd hN List.not_mem_nil)
set_option maxRecDepth 100000 in
theorem st409 {E : zE} (hE : E.1 < 2147483648) {B : Nat} (hsm : bSO E ctb B (2, smT)) : bMT E ctb (B + 1000000 * (176093659137 + 1)) 333 sc409 := bMTof hE hsm ke409 (fun N hN => by
  cases hN with
  | head => exact bkn_s hE hsm kn409_0
  | tail _ hN =>
    cases hN with
    | head => exact bkn_s hE hsm kn409_1
    | tail _ hN =>
      exact absurd hN List.not_mem_nil)
set_option maxRecDepth 100000 in
theorem st410 {E : zE} (hE : E.1 < 2147483648) {B : Nat} (hsm : bSO E ctb B (0, smT)) : bMT E ctb (B + 1000000 * (0 + 1)) 334 sc410 := bMTof hE hsm ke410 (fun N hN => absurd hN List.not_mem_nil)
set_option maxRecDepth 100000 in
theorem st411 {E : zE} (hE : E.1 < 2147483648) {B : Nat} (hsm : bSO E ctb B (3, smT)) : bMT E ctb (B + 1000000 * (14 + 1)) 335 sc411 := bMTof hE hsm ke411 (fun N hN => by
  cases hN with
  | head => exact bkn_s hE hsm kn411_0
  | tail _ hN =>
    exact absurd hN List.not_mem_nil)
set_option maxRecDepth 100000 in
theorem st412 {E : zE} (hE : E.1 < 2147483648) {B : Nat} (hsm : bSO E ctb B (0, smT)) : bMT E ctb (B + 1000000 * (0 + 1)) 338 sc412 := bMTof hE hsm ke412 (fun N hN => absurd hN List.not_mem_nil)
