/-! what lies behind the script's length is of no matter -/
set_option maxRecDepth 100000 in
theorem zald_e {E E' : zE} (h1 : E.1 = E'.1) (h2 : ∀ i, i < E.1 → E.2 i = E'.2 i) (k : List Value → Option zR) (h : zH) (st : List Value) : zald E k h st = zald E' k h st := by
  unfold zald
  split
  · rfl
  · rename_i j b r
    unfold zck
    rw [← h1]
    by_cases hj : j < 0
    · rw [if_pos hj, if_pos hj]
    · rw [if_neg hj, if_neg hj]
      by_cases hn : E.1 ≤ j.toNatClampNeg
      · rw [if_pos hn, if_pos hn]
      · rw [if_neg hn, if_neg hn, h2 _ (by omega)]
  · rfl
set_option maxRecDepth 100000 in
theorem zalen_e {E E' : zE} (h1 : E.1 = E'.1) (k : List Value → Option zR) (h : zH) (st : List Value) : zalen E k h st = zalen E' k h st := by
  unfold zalen
  rw [h1]
set_option maxRecDepth 100000 in
theorem zins_e {E E' : zE} (h1 : E.1 = E'.1) (h2 : ∀ i, i < E.1 → E.2 i = E'.2 i) (ih : zF) (d mi pc : Nat) (ls : zLs) (st : List Value) (h : zH) (ln a1 a2 a3 : Nat) (z : Int32) (ins : Instr) : zins E ih d mi pc ls st h ln a1 a2 a3 z ins = zins E' ih d mi pc ls st h ln a1 a2 a3 z ins := by
  cases ins
  case iaload =>
    unfold zins
    exact zald_e h1 h2 _ h st
  case arraylength =>
    unfold zins
    exact zalen_e h1 _ h st
  all_goals rfl
set_option maxRecDepth 100000 in
theorem zex_e {E E' : zE} (h1 : E.1 = E'.1) (h2 : ∀ i, i < E.1 → E.2 i = E'.2 i) : ∀ n, zex E n = zex E' n
  | 0 => rfl
  | n + 1 => by
    rw [zex_succ, zex_succ, zex_e h1 h2 n]
    funext d mi pc ls st h
    unfold zbody
    split
    · rfl
    · exact zins_e h1 h2 _ _ _ _ _ _ _ _ _ _ _ _ _
/-- a script with numbers of our choice behind it -/
def bgh (E : zE) (s : Nat) (g : Nat → Int32) : zE := (E.1, fun i => if i < E.1 then E.2 i else if i = 4000 then Int32.ofNat s else g i)
set_option maxRecDepth 100000 in
theorem bgh_e (E : zE) (s : Nat) (g : Nat → Int32) (n : Nat) : zex E n = zex (bgh E s g) n := zex_e (E := E) (E' := bgh E s g) rfl (fun i hi => by
  show E.2 i = if i < E.1 then _ else _
  rw [if_pos hi]) n
set_option maxRecDepth 100000 in
theorem bgh_0 {E : zE} (hE : E.1 ≤ 4000) {s : Nat} (hs : s ≤ 400) (g : Nat → Int32) : bs0 (bgh E s g) = s := by
  unfold bs0 bgh
  show (if 4000 < E.1 then E.2 4000 else if 4000 = 4000 then Int32.ofNat s else g 4000).toInt.toNat = s
  rw [if_neg (by omega), if_pos rfl, zof9 (by omega)]
  rfl
set_option maxRecDepth 100000 in
theorem bgh_c {E : zE} (hE : E.1 ≤ 4000) {h : zH} {s : Nat} (hs : s ≤ 400) : bokc (bgh E s (fun i => h.2.1 85 (1675 + (i - 5000)))) h := by
  intro i hi
  show _ = if 5000 + i < E.1 then _ else if 5000 + i = 4000 then _ else h.2.1 85 (1675 + (5000 + i - 5000))
  rw [if_neg (by omega), if_neg (by omega), show 5000 + i - 5000 = i by omega]
set_option maxRecDepth 100000 in
theorem bgh_k {E : zE} (hE : E.1 ≤ 4000) {h h' : zH} {s : Nat} (hs : s ≤ 400) (hk : bokc (bgh E s (fun i => h.2.1 85 (1675 + (i - 5000)))) h') : ∀ i, i < 2 * s → h'.2.1 85 (1675 + i) = h.2.1 85 (1675 + i) := by
  intro i hi
  have h1 := hk i (by rw [bgh_0 hE hs]; exact hi)
  rw [h1]
  show (if 5000 + i < E.1 then _ else if 5000 + i = 4000 then _ else h.2.1 85 (1675 + (5000 + i - 5000))) = _
  rw [if_neg (by omega), if_neg (by omega), show 5000 + i - 5000 = i by omega]
