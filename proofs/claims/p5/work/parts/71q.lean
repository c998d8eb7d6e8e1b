/-! the law's loop: both tapes stay the same -/
def w5W : Nat := 4149515568880992958512407863691161151012446232242436899995657329690652811412908146399707048947103794288196077359906456116841657778771014559326667490603563053248065278651385880969215
def t5A (f : bI) : bLs := [some (.inr (.inl (.float 0))), some (.inr (.inl (.ref 0))), some (.inr (.inl (.ref 84))), some (.inr (.inl (.ref 94))), some (.inl f), none, none]
def t5E : bE := [(0, 3072), (0, 3072), (0, 400), (0, 1)]
def t5P (l m : Nat) : bPv := [(1, 1, mv l), (84, 9, mv l), (30, 4, mv m), (84, 6, mv m)]
def t5C : bC := [(-6, [(0, 1), (1, -1)])]
def t5S : bNd := (23, t5A (mv 1), t5E, [], t5P 2 3, (0, []), (0, []), (1, []))
def t5N : bNd := (23, t5A (6, [(1, 1)]), [(0, 3072), (0, 3072), (0, 400), (0, 1), (0, 400), (0, 1)], t5C, t5P 4 5, (24, []), (2400, []), (0, []))
def t5F : bNd := (248, t5A (mv 1), t5E, t5C, t5P 2 3, (0, []), (0, []), (0, []))
def t5L : bNd := (362, t5A (mv 1), t5E, t5C, t5P 2 3, (0, []), (0, []), (0, []))
set_option maxRecDepth 100000 in
theorem t5_turn : zst w5W (60, smT) (some (0, [(0, 1)])) ctb (bfn 24 2400 4 (bidl 4 0) [([], [], some (.inl (1, [])), [])]) 4 100 0 1000000 [t5N, t5F, t5L] t5S = true := by decide +kernel
/-- what holds at the head of each turn -/
def LI (h : zH) (L im : Nat) : Prop := bHI h ∧ bPS h ∧ bTB ctb h.1 ∧ ((h.2.1 1 1).toInt = (L : Int) ∧ (h.2.1 84 9).toInt = (L : Int) ∧ (h.2.1 30 4).toInt = (im : Int) ∧ (h.2.1 84 6).toInt = (im : Int)) ∧ L ≤ 400 ∧ im ≤ 1 ∧ (∀ i, 0 ≤ tp2 h i ∧ tp2 h i ≤ 255) ∧ ∀ i, tp90 h i = sg8 (tp2 h i)
set_option maxRecDepth 100000 in
theorem w5W2 : Nat.testBit w5W (bun 2 0) = false := by decide +kernel
set_option maxRecDepth 100000 in
theorem w5W90 : Nat.testBit w5W (bun 90 0) = false := by decide +kernel
set_option maxRecDepth 100000 in
theorem wD90 : Nat.testBit wD (bun 90 0) = false := by decide +kernel
set_option maxRecDepth 100000 in
theorem wL2 : Nat.testBit wL (bun 2 0) = false := by decide +kernel
set_option maxRecDepth 100000 in
theorem wL11 : Nat.testBit wL (bun 1 1) = false := by decide +kernel
set_option maxRecDepth 100000 in
theorem wL09 : Nat.testBit wL (bun 0 9) = false := by decide +kernel
set_option maxRecDepth 100000 in
theorem wL304 : Nat.testBit wL (bun 30 4) = false := by decide +kernel
set_option maxRecDepth 100000 in
theorem wL846 : Nat.testBit wL (bun 84 6) = false := by decide +kernel
set_option maxRecDepth 100000 in
theorem wD304 : Nat.testBit wD (bun 30 4) = false := by decide +kernel
set_option maxRecDepth 100000 in
theorem wD846 : Nat.testBit wD (bun 84 6) = false := by decide +kernel
set_option maxRecDepth 100000 in
theorem wD849 : Nat.testBit wD (bun 84 9) = false := by decide +kernel
set_option maxRecDepth 100000 in
theorem sg8_R {T U : Nat → Int} {L : Nat} (h1 : ∀ i, 0 ≤ T i ∧ T i ≤ 255) (h2 : ∀ i, U i = sg8 (T i)) : tpR T U L ∧ ∀ i, -128 ≤ U i ∧ U i ≤ 127 := by
  refine ⟨fun i _ => ?_, fun i => ?_⟩
  · have := h1 i
    rw [h2 i]
    unfold sg8
    split <;> omega
  · have := h1 i
    rw [h2 i]
    unfold sg8
    split <;> omega
set_option maxRecDepth 100000 in
theorem bHI_fr {h h' : zH} (hI : bHI h) (hc : ∀ c, 85 ≤ c → c ≤ 89 → h'.2.1 c = h.2.1 c) (hh : ∀ c, bhc c = true → h'.2.1 c = h.2.1 c) (hb : ∀ c k, (biv c k).1 ≤ (h'.2.1 c k).toInt ∧ (h'.2.1 c k).toInt ≤ (biv c k).2) : bHI h' := by
  obtain ⟨-, g2, ⟨⟨g3, g4, g5, g6⟩, g7, g8, g9⟩, g10⟩ := hI
  have e85 : h'.2.1 bWc = h.2.1 bWc := hc 85 (by decide) (by decide)
  have f85 : h'.2.1 85 = h.2.1 85 := hc 85 (by decide) (by decide)
  have f86 := hc 86 (by decide) (by decide)
  have f87 := hc 87 (by decide) (by decide)
  have f88 := hc 88 (by decide) (by decide)
  have f89 := hc 89 (by decide) (by decide)
  refine ⟨hb, ?_, ⟨⟨?_, ?_, ?_, ?_⟩, ?_, ?_, ?_⟩, ?_⟩
  · rw [e85]; exact g2
  · rw [f86]; exact g3
  · rw [f87]; exact g4
  · rw [f88]; exact g5
  · rw [f89]; exact g6
  · rw [f85]; exact g7
  · rw [f86]; exact g8
  · rw [f87]; exact g9
  · intro c hz k
    rw [hh c hz]
    exact g10 c hz k
set_option maxRecDepth 100000 in
theorem bivF (c k : Nat) (h : biv c k = (-2147483648, 2147483647)) (x : Int32) : (biv c k).1 ≤ x.toInt ∧ x.toInt ≤ (biv c k).2 := by
  rw [h]
  exact bi32 x
set_option maxRecDepth 100000 in
theorem biv2F (k : Nat) : biv 2 k = (-2147483648, 2147483647) := rfl
set_option maxRecDepth 100000 in
theorem biv91F (k : Nat) : biv 91 k = (-2147483648, 2147483647) := rfl
set_option maxRecDepth 100000 in
theorem biv90F (k : Nat) : biv 90 k = (-128, 127) := rfl
set_option maxRecDepth 100000 in
theorem biv11F : biv 1 1 = (0, 400) := rfl
set_option maxRecDepth 100000 in
theorem biv849F : biv 84 9 = (0, 400) := rfl
set_option maxRecDepth 100000 in
theorem biv840F : biv 84 0 = (-2147483648, 2147483647) := rfl
def t5K (iv : Int32) (u5 u6 : Option Value) : zLs := [some (.float 0), some (.ref 0), some (.ref 84), some (.ref 94), some (.int iv), u5, u6]
set_option maxRecDepth 100000 in
theorem t5A_s {V : List Int} {f : bI} {ls : zLs} (h : bLR V (t5A f) ls) : ∃ iv u5 u6, ls = t5K iv u5 u6 ∧ iv.toInt = bvx V f := by
  match ls, h with
  | [p0, p1, p2, p3, p4, p5, p6], ⟨⟨v0, e0, f0⟩, ⟨v1, e1, f1⟩, ⟨v2, e2, f2⟩, ⟨v3, e3, f3⟩, ⟨v4, e4, x, f4, f5⟩, _, _, _⟩ =>
    have f0 : v0 = _ := f0
    have f1 : v1 = _ := f1
    have f2 : v2 = _ := f2
    have f3 : v3 = _ := f3
    refine ⟨x, p5, p6, ?_, brel_x f5⟩
    rw [e0, e1, e2, e3, e4, f0, f1, f2, f3, f4]
    rfl
set_option maxRecDepth 100000 in
theorem t5A_m {V : List Int} {f : bI} {iv : Int32} {u5 u6 : Option Value} (h : brel V f iv.toInt) : bLR V (t5A f) (t5K iv u5 u6) := ⟨⟨_, rfl, rfl⟩, ⟨_, rfl, rfl⟩, ⟨_, rfl, rfl⟩, ⟨_, rfl, rfl⟩, ⟨_, rfl, iv, rfl, h⟩, trivial, trivial, trivial⟩
set_option maxRecDepth 100000 in
theorem t5_feed {h : zH} {L im : Nat} (hI : LI h L im) (w0 w1 w2 w3 w4 : Int32) : ∃ (x y : Int32) (h1 h2 : zH) (L' : Nat), (∀ (E : zE) f d, zex E (f + 1000) (d + 1) 39 0 [some (.ref 0), some (.int w0), some (.int w1), some (.int w2), some (.int w3), some (.int w4)] [] h = some (.inl (some (.int x)), h1)) ∧ (∀ (E : zE) f d, zex E (f + 1000) (d + 1) 232 0 [some (.ref 84), some (.int w0), some (.int w1), some (.int w2), some (.int w3), some (.int w4), none] [] h1 = some (.inl (some (.int y)), h2)) ∧ h1.1 = h.1 ∧ h2.1 = h.1 ∧ h2.2.2 = h.2.2 ∧ LI h2 L' im := by
  obtain ⟨gI, gP, gT, ⟨p1, p2, p3, p4⟩, p5, p6, p7, p8⟩ := hI
  have a0 := gT 0 _ ks0 (by intro z; cases z)
  have a1 := gT 1 _ cs1 (by intro z; cases z)
  have a2 := gT 2 _ (show bg2 ctb 2 = some (.inl (0, 400, [])) from rfl) (by intro z; cases z)
  have a84 := gT 84 _ cs84 (by intro z; cases z)
  have a90 := gT 90 _ (show bg2 ctb 90 = some (.inl (1, 400, [])) from rfl) (by intro z; cases z)
  have a91 := gT 91 _ (show bg2 ctb 91 = some (.inl (0, 5, [])) from rfl) (by intro z; cases z)
  by_cases hL : L ≤ 380
  · obtain ⟨x, h1, e1, q1, q2, q3, q4, q5, q6⟩ := feedC (w0 := w0) (w1 := w1) (w2 := w2) (w3 := w3) (w4 := w4) p1 hL a0 a1 a2
    obtain ⟨y, h2, e2, r1, r2, r3, r4, r5, r6, r7⟩ := feedM (h := h1) (w0 := w0) (w1 := w1) (w2 := w2) (w3 := w3) (w4 := w4) (u6 := none) (by rw [q3 84 (by decide) (by decide)]; exact p2) hL (by rw [q1]; exact a84) (by rw [q1]; exact a90) (by rw [q1]; exact a91)
    have s1 : h2.1 = h.1 := r1.trans q1
    have c2 : ∀ i, h2.2.1 2 i = if L ≤ i ∧ i < L + 20 then fbC (w5 w0 w1 w2 w3 w4) (i - L) else h.2.1 2 i := fun i => by rw [r3 2 (by decide) (by decide) (by decide)]; exact q6 i
    have c90 : ∀ i, h2.2.1 90 i = if L ≤ i ∧ i < L + 20 then fbM (w5 w0 w1 w2 w3 w4) (i - L) else h.2.1 90 i := fun i => by rw [r7 i, q3 90 (by decide) (by decide)]
    have co : ∀ c, c ≠ 1 → c ≠ 2 → c ≠ 84 → c ≠ 90 → c ≠ 91 → h2.2.1 c = h.2.1 c := fun c z1 z2 z3 z4 z5 => (r3 c z3 z4 z5).trans (q3 c z1 z2)
    have t7 : ∀ i, 0 ≤ tp2 h2 i ∧ tp2 h2 i ≤ 255 := by
      intro i
      show 0 ≤ (h2.2.1 2 i).toInt ∧ (h2.2.1 2 i).toInt ≤ 255
      rw [c2 i]
      split
      · exact (by_eq _ _).2
      · exact p7 i
    have t8 : ∀ i, tp90 h2 i = sg8 (tp2 h2 i) := by
      intro i
      show (h2.2.1 90 i).toInt = sg8 (h2.2.1 2 i).toInt
      rw [c2 i, c90 i]
      split
      · exact (by_eq _ _).1
      · exact p8 i
    have t11 : (h2.2.1 1 1).toInt = ((L + 20 : Nat) : Int) := by rw [r3 1 (by decide) (by decide) (by decide)]; exact q5
    refine ⟨x, y, h1, h2, L + 20, e1, fun E f d => e2 E f (d + 1), q1, s1, r2.trans q2, ?_, ?_, by rw [s1]; exact gT, ⟨t11, r6, ?_, ?_⟩, by omega, p6, t7, t8⟩
    · refine bHI_fr gI (fun c z1 z2 => co c (by omega) (by omega) (by omega) (by omega) (by omega)) (fun c hz => ?_) fun c k => ?_
      · have hc : c = 15 ∨ c = 42 ∨ c = 82 := by
          unfold bhc at hz
          cases g1 : Nat.beq c 15 with
          | true => exact Or.inl (abq g1)
          | false =>
            rw [g1, cond_false] at hz
            cases g2 : Nat.beq c 42 with
            | true => exact Or.inr (Or.inl (abq g2))
            | false =>
              rw [g2, cond_false] at hz
              exact Or.inr (Or.inr (abq hz))
        exact co c (by omega) (by omega) (by omega) (by omega) (by omega)
      · by_cases z1 : c = 1
        · subst z1
          by_cases zk : k = 1
          · subst zk
            rw [t11, biv11F]
            exact ⟨by show (0 : Int) ≤ _; omega, by show _ ≤ (400 : Int); omega⟩
          · rw [r3 1 (by decide) (by decide) (by decide), q4 k zk]
            exact gI.1 1 k
        · by_cases z2 : c = 2
          · subst z2
            exact bivF 2 k (biv2F k) _
          · by_cases z91 : c = 91
            · subst z91
              exact bivF 91 k (biv91F k) _
            · by_cases z90 : c = 90
              · subst z90
                rw [biv90F]
                have w1 := t8 k
                have w2 := t7 k
                have w3 : (h2.2.1 90 k).toInt = sg8 (tp2 h2 k) := w1
                rw [w3]
                unfold sg8
                split
                · exact ⟨by show (-128 : Int) ≤ _; omega, by show _ ≤ (127 : Int); omega⟩
                · exact ⟨by show (-128 : Int) ≤ _; omega, by show _ ≤ (127 : Int); omega⟩
              · by_cases z84 : c = 84
                · subst z84
                  by_cases zk : k = 0
                  · subst zk
                    exact bivF 84 0 biv840F _
                  · by_cases zk9 : k = 9
                    · subst zk9
                      rw [r6, biv849F]
                      exact ⟨by show (0 : Int) ≤ _; omega, by show _ ≤ (400 : Int); omega⟩
                    · rw [r4 k zk zk9, q3 84 (by decide) (by decide)]
                      exact gI.1 84 k
                · rw [co c z1 z2 z84 z90 z91]
                  exact gI.1 c k
    · obtain ⟨r, g1, g2, g3⟩ := gP
      exact ⟨r, g1, by rw [s1]; exact g2, by rw [co 27 (by decide) (by decide) (by decide) (by decide) (by decide)]; exact g3⟩
    · rw [co 30 (by decide) (by decide) (by decide) (by decide) (by decide)]
      exact p3
    · rw [r4 6 (by decide) (by decide), q3 84 (by decide) (by decide)]
      exact p4
  · have e1 := feedCn (h := h) (T := L) (w0 := w0) (w1 := w1) (w2 := w2) (w3 := w3) (w4 := w4) p1 (by omega) p5 a0 a1
    have e2 := feedMn (h := h) (T := L) (w0 := w0) (w1 := w1) (w2 := w2) (w3 := w3) (w4 := w4) (u6 := none) p2 (by omega) p5 a84
    refine ⟨-1, -1, h, zsetI h 84 (upd (h.2.1 84) 0 0), L, fun E f d => e1 E (f + 991) (d + 1), fun E f d => e2 E (f + 989) (d + 1), rfl, rfl, rfl, ?_, ?_, gT, ⟨?_, ?_, ?_, ?_⟩, p5, p6, ?_, ?_⟩
    · refine bHI_fr gI (fun c z1 z2 => zs_nc (by omega)) (fun c hz => zs_nc (fun z => by rw [z] at hz; exact absurd hz (by decide))) fun c k => ?_
      by_cases z84 : c = 84
      · subst z84
        by_cases zk : k = 0
        · subst zk
          exact bivF 84 0 biv840F _
        · rw [zs_at, upd_n zk]
          exact gI.1 84 k
      · rw [zs_ne z84]
        exact gI.1 c k
    · obtain ⟨r, g1, g2, g3⟩ := gP
      exact ⟨r, g1, g2, by rw [zs_ne (by decide)]; exact g3⟩
    · rw [zs_ne (by decide)]; exact p1
    · rw [zs_at, upd_n (by decide)]; exact p2
    · rw [zs_ne (by decide)]; exact p3
    · rw [zs_at, upd_n (by decide)]; exact p4
    · intro i
      show 0 ≤ ((zsetI h 84 (upd (h.2.1 84) 0 0)).2.1 2 i).toInt ∧ ((zsetI h 84 (upd (h.2.1 84) 0 0)).2.1 2 i).toInt ≤ 255
      rw [zs_ne (by decide)]
      exact p7 i
    · intro i
      show ((zsetI h 84 (upd (h.2.1 84) 0 0)).2.1 90 i).toInt = sg8 ((zsetI h 84 (upd (h.2.1 84) 0 0)).2.1 2 i).toInt
      rw [zs_ne (by decide), zs_ne (by decide)]
      exact p8 i
