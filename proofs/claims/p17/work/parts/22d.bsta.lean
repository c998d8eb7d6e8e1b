abbrev bO : Type := List (Nat × (Int × List (Nat × Int)) × (Int × List (Nat × Int)))
abbrev bS : Type := Nat × List (Int × Int) × List (Int × List (Nat × Int)) × List (Nat × (Int × List (Nat × Int)) × (Int × List (Nat × Int))) × (Int × List (Nat × Int)) × (Int × List (Nat × Int))
abbrev bTb : Type := List (List zS)
noncomputable def bg2 {α : Type} (t : List (List α)) (c : Nat) : Option α := match agt t (c / 16) with
  | some r => agt r (c % 16)
  | none => none
/-- the bounds of the ints of a cell -/
noncomputable def biv (c k : Nat) : Int × Int := match bg2 ivt c with
  | some (0, l) => agd (-2147483648, 2147483647) l 0
  | some (1, l) => agd (-2147483648, 2147483647) l k
  | some (2, _) => bwinv k
  | some (_ + 3, _) => bwinv (k % 777)
  | none => (-2147483648, 2147483647)
set_option maxRecDepth 100000 in
theorem abl00 {a b : Nat} (h : b ≤ a) : Nat.blt a b = false := by
  cases hb : Nat.blt a b with
  | false => rfl
  | true => have := abl.mp hb; omega
set_option maxRecDepth 100000 in
theorem abq00 {a b : Nat} (h : a ≠ b) : Nat.beq a b = false := by
  cases hb : Nat.beq a b with
  | false => rfl
  | true => exact absurd (abq hb) h
/-- the parts of what is: 16 what texts tell, 17 parts of tools, 18 places, 19 who keeps, 20 the seed, 21 the round, 22 who is wet, 0 the rest -/
def bcl (k : Nat) : Nat := cond (Nat.blt k 4) 16 (cond (Nat.beq k 5) 21 (cond (Nat.beq k 12) 20 (cond (Nat.blt k 13) 0 (cond (Nat.blt k 145) (cond (Nat.blt ((k - 13) % 11) 2) 16 (cond (Nat.beq ((k - 13) % 11) 2) 17 0))
  (cond (Nat.blt k 185) 16 (cond (Nat.blt k 377) (cond (Nat.beq ((k - 185) % 24) 0) 18 (cond (Nat.beq ((k - 185) % 24) 1) 19 (cond (Nat.beq ((k - 185) % 24) 2) 22 (cond (Nat.blt ((k - 185) % 24) 16) 16 0)))) 0))))))
set_option maxRecDepth 100000 in
theorem bcl_c {P : Nat → Prop} {b : Bool} {x y : Nat} (h1 : P x) (h2 : P y) : P (cond b x y) := by
  cases b
  · exact h2
  · exact h1
set_option maxRecDepth 100000 in
theorem bcl_l (k : Nat) : bcl k = 0 ∨ (16 ≤ bcl k ∧ bcl k < 23) := by
  unfold bcl
  repeat' apply bcl_c (P := fun n => n = 0 ∨ (16 ≤ n ∧ n < 23))
  all_goals decide
set_option maxRecDepth 100000 in
theorem bcl_a {W u : Nat} (h : ∀ r, r < 23 → r = 0 ∨ 16 ≤ r → Nat.testBit W (u + r) = true) (k : Nat) : Nat.testBit W (u + bcl k) = true := by
  rcases bcl_l k with h1 | ⟨h1, h2⟩
  · exact h _ (by omega) (Or.inl h1)
  · exact h _ (by omega) (Or.inr h1)
set_option maxRecDepth 100000 in
theorem bcl_0 {k : Nat} (h : 377 ≤ k) : bcl k = 0 := by
  unfold bcl
  rw [show Nat.blt k 4 = false from abl00 (by omega), show Nat.beq k 5 = false from abq00 (by omega), show Nat.beq k 12 = false from abq00 (by omega), show Nat.blt k 13 = false from abl00 (by omega), show Nat.blt k 145 = false from abl00 (by omega), show Nat.blt k 185 = false from abl00 (by omega), show Nat.blt k 377 = false from abl00 (by omega)]
  rfl
def breg (k : Nat) : Nat := cond (Nat.blt k 777) (bcl k) (cond (Nat.blt k 1626) 1 (cond (Nat.beq k 1626) 2 (cond (Nat.blt k 1675) (3 + (k - 1627) / 4) 15)))
set_option maxRecDepth 100000 in
theorem breg_c (k : Nat) : breg k = if k < 777 then bcl k else if k < 1626 then 1 else if k = 1626 then 2 else if k < 1675 then 3 + (k - 1627) / 4 else 15 := by
  unfold breg
  cases h1 : Nat.blt k 777 with
  | true => rw [if_pos (abl.mp h1)]; rfl
  | false =>
    rw [if_neg (by have := abl0 h1; omega), cond_false]
    cases h2 : Nat.blt k 1626 with
    | true => rw [if_pos (abl.mp h2)]; rfl
    | false =>
      rw [if_neg (by have := abl0 h2; omega), cond_false]
      cases h3 : Nat.beq k 1626 with
      | true => rw [if_pos (abq h3)]; rfl
      | false =>
        rw [if_neg (abq0 h3), cond_false]
        cases h4 : Nat.blt k 1675 with
        | true => rw [if_pos (abl.mp h4)]; rfl
        | false => rw [if_neg (by have := abl0 h4; omega)]; rfl
set_option maxRecDepth 100000 in
theorem breg_m {a b : Nat} (h0 : 377 ≤ a) (h : a ≤ b) : breg a ≤ breg b := by
  rw [breg_c, breg_c, bcl_0 h0, bcl_0 (Nat.le_trans h0 h)]
  repeat' split
  all_goals omega
set_option maxRecDepth 100000 in
theorem breg_l (k : Nat) : breg k < 24 := by
  have := bcl_l k
  rw [breg_c]
  repeat' split
  all_goals omega
/-- the unit of writes that a place belongs to -/
noncomputable def bun (c k : Nat) : Nat := match bg2 unt c with
  | some (0, u) => u
  | some (1, u) => u + k
  | some (_ + 2, u) => u + breg k
  | none => 0
/-- the depth behind a step of a text of THE LAW; -1: too low -/
def bstp (x d : Int) : Int := if d < 0 then -1 else if x ≤ 8 then d + 1 else if x = 12 then (if 1 ≤ d then d else -1) else (if 2 ≤ d then d - 1 else -1)
/-- the depth behind n steps from the s-th -/
def bdf (f : Nat → Int32) (s : Nat) : Nat → Int
  | 0 => 0
  | n + 1 => bstp (f (1675 + 2 * (s + n))).toInt (bdf f s n)
def bs0 (E : zE) : Nat := (E.2 4000).toInt.toNat
def bst9 (h : zH) : Nat := (h.2.1 84 16).toInt.toNat
def bdv9 (E : zE) (h : zH) : Int := if bst9 h < bs0 E then -1 else bdf (h.2.1 85) (bs0 E) (bst9 h - bs0 E)
noncomputable def bpf (p : Prop) : Int := @ite _ p (Classical.propDecidable p) 1 0
def bokc (E : zE) (h : zH) : Prop := ∀ i : Nat, i < 2 * bs0 E → h.2.1 85 (1675 + i) = E.2 (5000 + i)
/-- a line of the draft, its steps from and to, is well formed -/
def bokl (h : zH) (i : Nat) : Prop := 0 ≤ (h.2.1 85 (1629 + 4 * i)).toInt ∧ (h.2.1 85 (1629 + 4 * i)).toInt ≤ (h.2.1 85 (1630 + 4 * i)).toInt ∧ (h.2.1 85 (1630 + 4 * i)).toInt ≤ (h.2.1 84 16).toInt ∧
  0 ≤ bdf (h.2.1 85) (h.2.1 85 (1629 + 4 * i)).toInt.toNat ((h.2.1 85 (1630 + 4 * i)).toInt - (h.2.1 85 (1629 + 4 * i)).toInt).toNat
def bokn (h : zH) (k : Nat) : Prop := ∀ i : Nat, i < k → bokl h i
/-- the value at a place: of the script (1000000), of what is computed from the heap (901 to 903), of a cell -/
noncomputable def bvl (E : zE) (h : zH) (c k : Nat) : Int := cond (Nat.beq c 1000000) (E.2 k).toInt (cond (Nat.blt c 900) (h.2.1 c k).toInt
  (cond (Nat.beq c 901) (cond (Nat.beq k 0) (bdv9 E h) (bs0 E)) (cond (Nat.beq c 902) (bpf (bokc E h)) (cond (Nat.beq c 903) (bpf (bokn h k)) 0))))
set_option maxRecDepth 100000 in
theorem bvl_n {E : zE} {h : zH} {c k : Nat} (hc : Nat.blt c 900 = true) : bvl E h c k = (h.2.1 c k).toInt := by
  unfold bvl
  have : Nat.beq c 1000000 = false := by
    cases hb : Nat.beq c 1000000 with
    | false => rfl
    | true =>
      have := abq hb
      have := abl.mp hc
      omega
  rw [this, hc]
  rfl
set_option maxRecDepth 100000 in
theorem bvl_s {E : zE} {h : zH} {k : Nat} : bvl E h 1000000 k = (E.2 k).toInt := by
  unfold bvl
  rw [show Nat.beq 1000000 1000000 = true from Nat.beq_refl 1000000, cond_true]
set_option maxRecDepth 100000 in
theorem bvl_1 {E : zE} {h : zH} : bvl E h 901 1 = (bs0 E : Int) := by
  unfold bvl
  rw [show Nat.beq 901 1000000 = false from rfl, show Nat.blt 901 900 = false from rfl, show Nat.beq 901 901 = true from rfl, show Nat.beq 1 0 = false from rfl]
  rfl
set_option maxRecDepth 100000 in
theorem bvl_0 {E : zE} {h : zH} : bvl E h 901 0 = bdv9 E h := by
  unfold bvl
  rw [show Nat.beq 901 1000000 = false from rfl, show Nat.blt 901 900 = false from rfl, show Nat.beq 901 901 = true from rfl, show Nat.beq 0 0 = true from rfl]
  rfl
set_option maxRecDepth 100000 in
theorem bvl_2 {E : zE} {h : zH} {k : Nat} : bvl E h 902 k = bpf (bokc E h) := by
  unfold bvl
  rw [show Nat.beq 902 1000000 = false from rfl, show Nat.blt 902 900 = false from rfl, show Nat.beq 902 901 = false from rfl, show Nat.beq 902 902 = true from rfl]
  rfl
set_option maxRecDepth 100000 in
theorem bvl_3 {E : zE} {h : zH} {k : Nat} : bvl E h 903 k = bpf (bokn h k) := by
  unfold bvl
  rw [show Nat.beq 903 1000000 = false from rfl, show Nat.blt 903 900 = false from rfl, show Nat.beq 903 901 = false from rfl, show Nat.beq 903 902 = false from rfl, show Nat.beq 903 903 = true from rfl]
  rfl
set_option maxRecDepth 100000 in
theorem bpf_b (p : Prop) : 0 ≤ bpf p ∧ bpf p ≤ 1 := by
  unfold bpf
  split <;> omega
set_option maxRecDepth 100000 in
theorem bpf_1 {p : Prop} (h : bpf p = 1) : p := by
  unfold bpf at h
  split at h
  · rename_i hp; exact hp
  · cases h
set_option maxRecDepth 100000 in
theorem bpf_p {p : Prop} (h : p) : bpf p = 1 := by
  unfold bpf
  rw [if_pos h]
set_option maxRecDepth 100000 in
theorem bpf_c {p q : Prop} (h : p ↔ q) : bpf p = bpf q := by rw [propext h]
set_option maxRecDepth 100000 in
theorem bdf_b (f : Nat → Int32) (s : Nat) : ∀ n : Nat, -1 ≤ bdf f s n ∧ bdf f s n ≤ n
  | 0 => by
    show -1 ≤ (0 : Int) ∧ (0 : Int) ≤ (0 : Nat)
    omega
  | n + 1 => by
    have h1 := bdf_b f s n
    show -1 ≤ bstp _ (bdf f s n) ∧ bstp _ (bdf f s n) ≤ ((n + 1 : Nat) : Int)
    unfold bstp
    repeat' split
    all_goals omega
set_option maxRecDepth 100000 in
theorem bdf_e {f g : Nat → Int32} {s : Nat} : ∀ {n : Nat}, (∀ i, i < n → f (1675 + 2 * (s + i)) = g (1675 + 2 * (s + i))) → bdf f s n = bdf g s n
  | 0, _ => rfl
  | n + 1, h => by
    show bstp _ _ = bstp _ _
    rw [h n (Nat.lt_succ_self n), bdf_e (n := n) fun i hi => h i (by omega)]
set_option maxRecDepth 100000 in
theorem bvl_e {E : zE} {h h' : zH} {c k : Nat} (hc : Nat.blt c 900 = false) (h1 : c = 901 → k = 0 → (∀ p, 1675 ≤ p → h'.2.1 85 p = h.2.1 85 p) ∧ h'.2.1 84 16 = h.2.1 84 16)
    (h2 : c = 902 → ∀ p, 1675 ≤ p → h'.2.1 85 p = h.2.1 85 p) (h3 : c = 903 → (∀ p, 1627 ≤ p → h'.2.1 85 p = h.2.1 85 p) ∧ h'.2.1 84 16 = h.2.1 84 16) : bvl E h' c k = bvl E h c k := by
  unfold bvl
  cases g1 : Nat.beq c 1000000 with
  | true => simp only [cond_true]
  | false =>
    rw [hc]
    simp only [cond_false]
    cases g2 : Nat.beq c 901 with
    | true =>
      simp only [cond_true]
      cases g3 : Nat.beq k 0 with
      | false => simp only [cond_false]
      | true =>
        simp only [cond_true]
        obtain ⟨e2, e1⟩ := h1 (abq g2) (abq g3)
        unfold bdv9 bst9
        rw [e1]
        have e3 : ∀ n, bdf (h'.2.1 85) (bs0 E) n = bdf (h.2.1 85) (bs0 E) n := fun n => bdf_e fun i _ => e2 _ (by omega)
        rw [e3]
    | false =>
      simp only [cond_false]
      cases g3 : Nat.beq c 902 with
      | true =>
        simp only [cond_true]
        have e2 := h2 (abq g3)
        refine bpf_c ⟨fun q i hi => ?_, fun q i hi => ?_⟩
        · rw [← e2 _ (by omega)]
          exact q i hi
        · rw [e2 _ (by omega)]
          exact q i hi
      | false =>
        simp only [cond_false]
        cases g4 : Nat.beq c 903 with
        | false => simp only [cond_false]
        | true =>
          simp only [cond_true]
          obtain ⟨e3, e1⟩ := h3 (abq g4)
          have e4 : ∀ s n, bdf (h'.2.1 85) s n = bdf (h.2.1 85) s n := fun s n => bdf_e fun i _ => e3 _ (by omega)
          refine bpf_c ⟨fun q i hi => ?_, fun q i hi => ?_⟩
          · have := q i hi
            unfold bokl at this ⊢
            rw [e1, e3 (1629 + 4 * i) (by omega), e3 (1630 + 4 * i) (by omega), e4] at this
            exact this
          · have := q i hi
            unfold bokl at this ⊢
            rw [e1, e3 (1629 + 4 * i) (by omega), e3 (1630 + 4 * i) (by omega), e4]
            exact this
def blam (f : Nat → Int32) : Prop := ∀ p : Nat, (p : Int) < (f 2).toInt → 1 ≤ (f (188 + 24 * p)).toInt
/-- a text of THE LAW: each line's steps are a sum of values of a stack that is never too low -/
def bOm (f : Nat → Int32) : Prop := ∀ n : Nat, (n : Int) < (f 777).toInt → ∃ dep : Nat → Nat, dep (f (780 + 4 * n)).toInt.toNat = 0 ∧ ∀ i : Nat, (f (780 + 4 * n)).toInt ≤ (i : Int) → (i : Int) < (f (781 + 4 * n)).toInt →
  ((f (826 + 2 * i)).toInt ≤ 8 → dep (i + 1) = dep i + 1) ∧ ((f (826 + 2 * i)).toInt = 12 → 1 ≤ dep i ∧ dep (i + 1) = dep i) ∧ (8 < (f (826 + 2 * i)).toInt → (f (826 + 2 * i)).toInt ≠ 12 → 2 ≤ dep i ∧ dep (i + 1) + 1 = dep i)
def bHX (h : zH) : Prop := (blam (h.2.1 86) ∧ blam (h.2.1 87) ∧ blam (h.2.1 88) ∧ ∀ b : Nat, b < 12 → blam (fun k => h.2.1 89 (777 * b + k))) ∧ bOm (h.2.1 85) ∧ bOm (h.2.1 86) ∧ bOm (h.2.1 87)
/-- rows that only copies write -/
def bnx (c : Nat) : Bool := cond (Nat.blt c 86) true (Nat.blt 89 c)
/-- rows of words of THE LAW: 1012 to 1019 are none -/
def bhc (c : Nat) : Bool := cond (Nat.beq c 15) true (cond (Nat.beq c 42) true (Nat.beq c 82))
def bHI (h : zH) : Prop := (∀ c k, (biv c k).1 ≤ (h.2.1 c k).toInt ∧ (h.2.1 c k).toInt ≤ (biv c k).2) ∧ blam (h.2.1 bWc) ∧ bHX h ∧ ∀ c, bhc c = true → ∀ k, (h.2.1 c k).toInt ≤ 1011 ∨ 1020 ≤ (h.2.1 c k).toInt
set_option maxRecDepth 100000 in
theorem bW2 : (biv bWc 2).2 = 8 := rfl
set_option maxRecDepth 100000 in
theorem bW20 : (biv bWc 2).1 = 0 := rfl
set_option maxRecDepth 100000 in
theorem bWn : Nat.blt bWc 900 = true := rfl
set_option maxRecDepth 100000 in
theorem bWl9 : ∀ q : Nat, q < 8 → (biv bWc (188 + 24 * q)).2 = 12
  | 0, _ => rfl
  | 1, _ => rfl
  | 2, _ => rfl
  | 3, _ => rfl
  | 4, _ => rfl
  | 5, _ => rfl
  | 6, _ => rfl
  | 7, _ => rfl
  | _ + 8, h => absurd h (by omega)
set_option maxRecDepth 100000 in
theorem bWl (jn : Nat) (q : Nat) (h : q < 8) (e : jn = 188 + 24 * q) : (biv bWc jn).2 ≤ 12 := by
  rw [e, bWl9 q h]
  exact Int.le_refl _
set_option maxRecDepth 100000 in
theorem bW777 : (biv bWc 777).2 = 12 := rfl
set_option maxRecDepth 100000 in
theorem bW781 : ∀ q : Nat, q < 12 → (biv bWc (781 + 4 * q)).2 = 400
  | 0, _ => rfl
  | 1, _ => rfl
  | 2, _ => rfl
  | 3, _ => rfl
  | 4, _ => rfl
  | 5, _ => rfl
  | 6, _ => rfl
  | 7, _ => rfl
  | 8, _ => rfl
  | 9, _ => rfl
  | 10, _ => rfl
  | 11, _ => rfl
  | _ + 12, h => absurd h (by omega)
set_option maxRecDepth 100000 in
theorem bHX_w {h : zH} {c jn : Nat} {y : Int32} (hb : ∀ c k, (biv c k).1 ≤ (h.2.1 c k).toInt ∧ (h.2.1 c k).toInt ≤ (biv c k).2) (hx : bHX h) (hc : bnx c = true) (hw : c = bWc → 1626 ≤ jn ∨ jn ≤ 776) : bHX (zsetI h c (upd (h.2.1 c) jn y)) := by
  have hne : ∀ d : Nat, 86 ≤ d → d ≤ 89 → (zsetI h c (upd (h.2.1 c) jn y)).2.1 d = h.2.1 d := by
    intro d h1 h2
    show zrow h.2.1 c (upd (h.2.1 c) jn y) d = h.2.1 d
    refine zrow_ne _ _ ?_
    intro z
    subst z
    unfold bnx at hc
    cases h3 : Nat.blt d 86 with
    | true => have := abl.mp h3; omega
    | false =>
      rw [h3, cond_false] at hc
      have := abl.mp hc
      omega
  obtain ⟨⟨g1, g2, g3, g4⟩, g5, g6, g7⟩ := hx
  refine ⟨⟨?_, ?_, ?_, ?_⟩, ?_, ?_, ?_⟩
  · rw [hne 86 (by omega) (by omega)]; exact g1
  · rw [hne 87 (by omega) (by omega)]; exact g2
  · rw [hne 88 (by omega) (by omega)]; exact g3
  · intro b hb
    rw [hne 89 (by omega) (by omega)]
    exact g4 b hb
  · by_cases hcw : c = bWc
    · subst hcw
      have hw := hw rfl
      show bOm (zrow h.2.1 bWc (upd (h.2.1 bWc) jn y) bWc)
      rw [zrow_at]
      have hu : ∀ k, k ≠ jn → upd (h.2.1 bWc) jn y k = h.2.1 bWc k := by
        intro k hk
        unfold upd
        rw [if_neg hk]
      have b1 := (hb bWc 777).2
      rw [bW777] at b1
      intro n hn
      rw [hu 777 (by omega)] at hn
      obtain ⟨dep, d1, d2⟩ := g5 n hn
      have b2 := (hb bWc (781 + 4 * n)).2
      rw [bW781 n (by omega)] at b2
      refine ⟨dep, ?_, ?_⟩
      · rw [hu _ (by omega)]
        exact d1
      · intro i i1 i2
        rw [hu _ (by omega)] at i1 i2
        have i2' : (i : Int) < (h.2.1 bWc (781 + 4 * n)).toInt := i2
        have d3 := d2 i i1 i2
        rw [hu (826 + 2 * i) (by omega)]
        exact d3
    · show bOm (zrow h.2.1 c (upd (h.2.1 c) jn y) 85)
      have e9 : zrow h.2.1 c (upd (h.2.1 c) jn y) 85 = h.2.1 85 := zrow_ne h.2.1 _ (fun z => hcw z.symm)
      rw [e9]
      exact g5
  · rw [hne 86 (by omega) (by omega)]; exact g6
  · rw [hne 87 (by omega) (by omega)]; exact g7
def bTB (tb : bTb) (sh : List zS) : Prop := ∀ c s, bg2 tb c = some s → s ≠ .inr (.inr ()) → zat sh c = some s
def bOV (E : zE) (V : List Int) (ov : bO) (h : zH) : Prop := ∀ e, e ∈ ov → ∃ j : Nat, brel V e.2.1 (j : Int) ∧ brel V e.2.2 (bvl E h e.1 j)
/-- the shapes: those behind the constructors, and so many of Past's rows -/
def bPS (h : zH) : Prop := ∃ r : Nat, r ≤ 12 ∧ h.1 = bsT r ∧ (h.2.1 27 3).toInt ≤ (r : Int)
def bSS (E : zE) (tb : bTb) (W : Nat) (h0 : zH) (V : List Int) (S : bS) (h : zH) : Prop :=
  benv V S.2.1 ∧ S.1 = V.length ∧ bcs V S.2.2.1 ∧ bOV E V S.2.2.2.1 h ∧ bHI h ∧ bPS h ∧ bTB tb h.1 ∧
  (∀ c k, Nat.testBit W (bun c k) = false → h.2.1 c k = h0.2.1 c k) ∧
  (∃ x, brel V S.2.2.2.2.1 x ∧ (h.2.2.2.1 : Int) ≤ (h0.2.2.2.1 : Int) + x) ∧ (∃ x, brel V S.2.2.2.2.2 x ∧ (h.2.2.2.2 : Int) ≤ (h0.2.2.2.2 : Int) + x)
set_option maxRecDepth 100000 in
theorem bOV_up {E : zE} {V V' : List Int} {ov : bO} {h : zH} (hx : bxt V V') (e : bOV E V ov h) : bOV E V' ov h := fun q hq => by
  obtain ⟨j, h1, h2⟩ := e q hq
  exact ⟨j, brel_up hx h1, brel_up hx h2⟩
set_option maxRecDepth 100000 in
theorem zat_app_at {α : Type} : ∀ {V : List α} {u : α}, zat (V ++ [u]) V.length = some u
  | [], _ => rfl
  | _ :: V, _ => zat_app_at (V := V)
set_option maxRecDepth 100000 in
theorem benv_app {V : List Int} {env : bE} (he : benv V env) {lo hi x : Int} (h1 : lo ≤ x) (h2 : x ≤ hi) : benv (V ++ [x]) (env ++ [(lo, hi)]) := by
  refine ⟨by simp [he.1], ?_⟩
  intro i a b hz
  rw [zat_app] at hz
  by_cases hi : i = env.length
  · rw [if_pos hi] at hz
    cases hz
    rw [hi, ← he.1]
    exact ⟨x, zat_app_at, h1, h2⟩
  · rw [if_neg hi] at hz
    obtain ⟨v, g1, g2⟩ := he.2 _ _ _ hz
    exact ⟨v, zat_up g1, g2⟩
def bie (a b : Int) : Bool := match a, b with
  | .ofNat m, .ofNat n => Nat.beq m n
  | .negSucc m, .negSucc n => Nat.beq m n
  | .ofNat _, .negSucc _ => false
  | .negSucc _, .ofNat _ => false
set_option maxRecDepth 100000 in
theorem bie_s {a b : Int} (h : bie a b = true) : a = b := by
  cases a <;> cases b
  · exact congrArg Int.ofNat (abq h)
  · cases h
  · cases h
  · exact congrArg Int.negSucc (abq h)
noncomputable def btq (l : bT) : bT → Bool := List.rec (motive := fun _ => bT → Bool) (fun m => (match m with
  | [] => true
  | _ :: _ => false)) (fun q _ ih m => (match m with
  | [] => false
  | p :: t => cond (Nat.beq q.1 p.1) (cond (bie q.2 p.2) (ih t) false) false)) l
set_option maxRecDepth 100000 in
theorem btq_s : ∀ {l m : bT}, btq l m = true → l = m
  | [], [], _ => rfl
  | [], _ :: _, h => nomatch h
  | _ :: _, [], h => nomatch h
  | (i, a) :: l, (j, b) :: m, h => by
    have h : cond (Nat.beq i j) (cond (bie a b) (btq l m) false) false = true := h
    obtain ⟨h1, h⟩ := bcnd h
    obtain ⟨h2, h⟩ := bcnd h
    rw [abq h1, bie_s h2, btq_s h]
noncomputable def bfq (f g : bI) : Bool := cond (bie f.1 g.1) (btq f.2 g.2) false
set_option maxRecDepth 100000 in
theorem bfq_s {f g : bI} (h : bfq f g = true) : f = g := by
  obtain ⟨h1, h2⟩ := bcnd h
  obtain ⟨a, b⟩ := f
  obtain ⟨c, d⟩ := g
  rw [show a = c from bie_s h1, show b = d from btq_s h2]
section BST
variable {E : zE} {tb : bTb} {W : Nat} {h0 : zH} {V : List Int} {S : bS} {h : zH}
noncomputable def bfre (lo hi : Int) (S : bS) (k : bI → bS → Bool) : Bool := match S with
  | (nv, env, cs, ov, ca, sa) => bfo lo fun lo => bfo hi fun hi => cond (bie lo hi) (k (lo, []) (nv, env, cs, ov, ca, sa)) (asd (0, 0) nv (lo, hi) env fun env => afo (nv + 1) fun m => k (0, [(nv, 1)]) (m, env, cs, ov, ca, sa))
set_option maxRecDepth 100000 in
theorem bfre_s (hS : bSS E tb W h0 V S h) {lo hi x : Int} (h1 : lo ≤ x) (h2 : x ≤ hi) {k : bI → bS → Bool} (e : bfre lo hi S k = true) : ∃ V' f S', bxt V V' ∧ brel V' f x ∧ bSS E tb W h0 V' S' h ∧ k f S' = true := by
  obtain ⟨nv, env, cs, ov, ca, sa⟩ := S
  obtain ⟨g1, g2, g3, g4, g5, g6, g7, g8, ⟨y, g9, g10⟩, ⟨z, g11, g12⟩⟩ := hS
  unfold bfre at e
  simp only [bfo_eq, afo_eq] at e
  cases hb : bie lo hi with
  | true =>
    rw [hb, cond_true] at e
    have := bie_s hb
    have hx : x = lo := by omega
    rw [← hx] at e
    exact ⟨V, _, _, bxt_refl V, brel_c V x, ⟨g1, g2, g3, g4, g5, g6, g7, g8, ⟨y, g9, g10⟩, ⟨z, g11, g12⟩⟩, e⟩
  | false =>
    rw [hb, cond_false, asd_eq] at e
    have g2 : nv = V.length := g2
    have hl : nv = env.length := by rw [g2]; exact g1.1
    rw [hl, asl_app, ← hl] at e
    have hx : bxt V (V ++ [x]) := ⟨[x], rfl⟩
    refine ⟨V ++ [x], (0, [(nv, 1)]), (nv + 1, env ++ [(lo, hi)], cs, ov, ca, sa), hx, brel_v (i := nv) ?_, ⟨benv_app g1 h1 h2, ?_, bcs_up hx g3, bOV_up hx g4, g5, g6, g7, g8, ⟨y, brel_up hx g9, g10⟩, ⟨z, brel_up hx g11, g12⟩⟩, e⟩
    · rw [g2]
      exact zat_app_at
    · show nv + 1 = (V ++ [x]).length
      rw [g2]
      simp
noncomputable def bas (C : bI) (S : bS) (k : bS → Bool) : Bool := match S with
  | (nv, env, cs, ov, ca, sa) => basm env cs C fun env cs => k (nv, env, cs, ov, ca, sa)
set_option maxRecDepth 100000 in
theorem bas_s (hS : bSS E tb W h0 V S h) {C : bI} {x : Int} (hC : brel V C x) (hx : 0 ≤ x) {k : bS → Bool} (e : bas C S k = true) : ∃ S', bSS E tb W h0 V S' h ∧ k S' = true := by
  obtain ⟨nv, env, cs, ov, ca, sa⟩ := S
  obtain ⟨g1, g2, g3, g4⟩ := hS
  have e : basm env cs C (fun env cs => k (nv, env, cs, ov, ca, sa)) = true := e
  obtain ⟨env', cs', h1, h2, e⟩ := basm_s g1 g3 hC hx e
  exact ⟨(nv, env', cs', ov, ca, sa), ⟨h1, g2, h2, g4⟩, e⟩
noncomputable def bch (C : bI) (S : bS) : Bool := match S with
  | (_, env, cs, _, _, _) => bchk 2 env cs C
set_option maxRecDepth 100000 in
theorem bch_s (hS : bSS E tb W h0 V S h) {C : bI} {x : Int} (hC : brel V C x) (e : bch C S = true) : 0 ≤ x := by
  obtain ⟨nv, env, cs, ov, ca, sa⟩ := S
  have e : bchk 2 env cs C = true := e
  exact bchk_s hS.1 hS.2.2.1 hC e
noncomputable def bhse (i : Nat) (a : Int) (l : bT) : Bool := List.rec (motive := fun _ => Bool) false (fun q _ ih => cond (cond (Nat.beq q.1 i) (bie q.2 a) false) true ih) l
noncomputable def bshe (l m : bT) : Bool := List.rec (motive := fun _ => Bool) false (fun q _ ih => cond (bhse q.1 q.2 m) true ih) l
noncomputable def bct (env : bE) (cs : bC) : bI → Bool := List.rec (motive := fun _ => bI → Bool) (fun f => brg env (fun lo _ => bLe 0 lo) f.2 f.1 f.1) (fun C _ ih f => cond (cond (bshe C.2 f.2) (bsum (-1) C f ih) false) true (ih f)) cs
set_option maxRecDepth 100000 in
theorem bct_s {env : bE} (he : benv V env) : ∀ {cs : bC} {f : bI} {x : Int}, bcs V cs → brel V f x → bct env cs f = true → 0 ≤ x
  | [], f, x, _, h, e => by
    obtain ⟨a, b, h1, h2, -, h3⟩ := brgf_s he h e
    have := bLe_iff.mp h3
    omega
  | C :: cs, f, x, hc, h, e => by
    have e : cond (cond (bshe C.2 f.2) (bsum (-1) C f (bct env cs)) false) true (bct env cs f) = true := e
    have hc' : bcs V cs := fun D hD => hc D (List.mem_cons_of_mem _ hD)
    cases h1 : (cond (bshe C.2 f.2) (bsum (-1) C f (bct env cs)) false) with
    | false =>
      rw [h1, cond_false] at e
      exact bct_s he hc' h e
    | true =>
      obtain ⟨-, h2⟩ := bcnd h1
      obtain ⟨y, h3, h4⟩ := hc C List.mem_cons_self
      obtain ⟨r, h5, h6⟩ := bsum_s h h3 h2
      have := bct_s he hc' h5 h6
      omega
noncomputable def bcx (f : bI) (S : bS) : Bool := cond (bch f S) true (match S with
  | (_, env, cs, _, _, _) => bct env cs f)
set_option maxRecDepth 100000 in
theorem bcx_s (hS : bSS E tb W h0 V S h) {f : bI} {x : Int} (hf : brel V f x) (e : bcx f S = true) : 0 ≤ x := by
  unfold bcx at e
  cases h1 : bch f S with
  | true => exact bch_s hS hf h1
  | false =>
    rw [h1, cond_false] at e
    obtain ⟨nv, env, cs, ov, ca, sa⟩ := S
    exact bct_s hS.1 hS.2.2.1 hf e
noncomputable def brS (f : bI) (S : bS) (k : Int → Int → Bool) : Bool := match S with
  | (_, env, _, _, _, _) => brg env k f.2 f.1 f.1
set_option maxRecDepth 100000 in
theorem brS_s (hS : bSS E tb W h0 V S h) {f : bI} {x : Int} (hC : brel V f x) {k : Int → Int → Bool} (e : brS f S k = true) : ∃ a b, a ≤ x ∧ x ≤ b ∧ k a b = true := by
  obtain ⟨nv, env, cs, ov, ca, sa⟩ := S
  have e : brg env k f.2 f.1 f.1 = true := e
  obtain ⟨a, b, h1, h2, -, h3⟩ := brgf_s hS.1 hC e
  exact ⟨a, b, h1, h2, h3⟩
/-- lo ≤ f ≤ hi -/
noncomputable def bwi (f : bI) (lo hi : Int) (S : bS) : Bool := cond (brS f S fun a b => cond (bLe lo a) (bLe b hi) false) true
  (cond (bsum (-1) (lo, []) f fun g => bch g S) (bsum (-1) f (hi, []) fun g => bch g S) false)
set_option maxRecDepth 100000 in
theorem bwi_s (hS : bSS E tb W h0 V S h) {f : bI} {x lo hi : Int} (hf : brel V f x) (e : bwi f lo hi S = true) : lo ≤ x ∧ x ≤ hi := by
  unfold bwi at e
  cases hb : (brS f S fun a b => cond (bLe lo a) (bLe b hi) false) with
  | true =>
    obtain ⟨a, b, h1, h2, h3⟩ := brS_s hS hf hb
    obtain ⟨h4, h5⟩ := bcnd h3
    have := bLe_iff.mp h4
    have := bLe_iff.mp h5
    omega
  | false =>
    rw [hb, cond_false] at e
    obtain ⟨h1, h2⟩ := bcnd e
    obtain ⟨r, h3, h4⟩ := bsum_s hf (brel_c V lo) h1
    obtain ⟨r', h5, h6⟩ := bsum_s (brel_c V hi) hf h2
    have := bch_s hS h3 h4
    have := bch_s hS h5 h6
    omega
noncomputable def bwx (f : bI) (lo hi : Int) (S : bS) : Bool := cond (brS f S fun a b => cond (bLe lo a) (bLe b hi) false) true
  (cond (bsum (-1) (lo, []) f fun g => bcx g S) (bsum (-1) f (hi, []) fun g => bcx g S) false)
set_option maxRecDepth 100000 in
theorem bwx_s (hS : bSS E tb W h0 V S h) {f : bI} {x lo hi : Int} (hf : brel V f x) (e : bwx f lo hi S = true) : lo ≤ x ∧ x ≤ hi := by
  unfold bwx at e
  cases hb : (brS f S fun a b => cond (bLe lo a) (bLe b hi) false) with
  | true =>
    obtain ⟨a, b, h1, h2, h3⟩ := brS_s hS hf hb
    obtain ⟨h4, h5⟩ := bcnd h3
    have := bLe_iff.mp h4
    have := bLe_iff.mp h5
    omega
  | false =>
    rw [hb, cond_false] at e
    obtain ⟨h1, h2⟩ := bcnd e
    obtain ⟨r, h3, h4⟩ := bsum_s hf (brel_c V lo) h1
    obtain ⟨r', h5, h6⟩ := bsum_s (brel_c V hi) hf h2
    have := bcx_s hS h3 h4
    have := bcx_s hS h5 h6
    omega
noncomputable def blk (c : Nat) (j : bI) (ov : bO) : Option bI := List.rec (motive := fun _ => Option bI) none (fun q _ ih => cond (Nat.beq q.1 c) (cond (bfq q.2.1 j) (some q.2.2) ih) ih) ov
set_option maxRecDepth 100000 in
theorem blk_s {j : bI} {jn : Nat} {c : Nat} {f : bI} (hj : brel V j (jn : Int)) : ∀ {ov : bO}, bOV E V ov h → blk c j ov = some f → brel V f (bvl E h c jn)
  | [], _, e => nomatch e
  | q :: ov, hO, e => by
    have e : cond (Nat.beq q.1 c) (cond (bfq q.2.1 j) (some q.2.2) (blk c j ov)) (blk c j ov) = some f := e
    have hO' : bOV E V ov h := fun p hp => hO p (List.mem_cons_of_mem _ hp)
    cases h1 : Nat.beq q.1 c with
    | false => rw [h1, cond_false] at e; exact blk_s hj hO' e
    | true =>
      rw [h1, cond_true] at e
      cases h2 : bfq q.2.1 j with
      | false => rw [h2, cond_false] at e; exact blk_s hj hO' e
      | true =>
        rw [h2, cond_true] at e
        cases e
        obtain ⟨i, h3, h4⟩ := hO q List.mem_cons_self
        rw [bfq_s h2] at h3
        have h5 := brel_f hj h3
        have h6 : jn = i := by omega
        rw [h6, ← abq h1]
        exact h4
noncomputable def blS (c : Nat) (j : bI) (S : bS) : Option bI := match S with
  | (_, _, _, ov, _, _) => blk c j ov
/-- the value at a place, that lies within lo and hi -/
noncomputable def brd (c : Nat) (j : bI) (lo hi : Int) (S : bS) (k : bI → bS → Bool) : Bool := match blS c j S with
  | some f => k f S
  | none => bfre lo hi S fun f S => (match S with
    | (nv, env, cs, ov, ca, sa) => k f (nv, env, cs, (c, j, f) :: ov, ca, sa))
set_option maxRecDepth 100000 in
theorem brd_s (hS : bSS E tb W h0 V S h) {c jn : Nat} {j : bI} (hj : brel V j (jn : Int)) {lo hi : Int} (h1 : lo ≤ bvl E h c jn) (h2 : bvl E h c jn ≤ hi) {k : bI → bS → Bool} (e : brd c j lo hi S k = true) : ∃ V' f S', bxt V V' ∧ brel V' f (bvl E h c jn) ∧ bSS E tb W h0 V' S' h ∧ k f S' = true := by
  unfold brd at e
  split at e
  · rename_i f hz
    obtain ⟨nv, env, cs, ov, ca, sa⟩ := S
    exact ⟨V, f, _, bxt_refl V, blk_s hj hS.2.2.2.1 hz, hS, e⟩
  · obtain ⟨V', f, S', h3, h4, h5, e⟩ := bfre_s hS h1 h2 e
    obtain ⟨nv, env, cs, ov, ca, sa⟩ := S'
    obtain ⟨g1, g2, g3, g4, g5⟩ := h5
    refine ⟨V', f, (nv, env, cs, (c, j, f) :: ov, ca, sa), h3, h4, ⟨g1, g2, g3, ?_, g5⟩, e⟩
    intro q hq
    cases hq with
    | head => exact ⟨jn, brel_up h3 hj, h4⟩
    | tail _ hq => exact g4 q hq
end BST
