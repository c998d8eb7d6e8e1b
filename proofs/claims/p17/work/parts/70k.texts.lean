/-! both tapes of the same bytes: the same blanks, words, numbers -/
/-- the class's bytes, 0 to 255, and the model's, with signs -/
def tpR (T U : Nat → Int) (L : Nat) : Prop := ∀ i, i < L → U i = T i ∨ (128 ≤ T i ∧ U i < 0)
def Pas (P : Int → Bool) : Prop := ∀ x : Int, 128 ≤ x ∨ x < 0 → P x = false
set_option maxRecDepth 100000 in
theorem pas_bl : Pas isBl := fun x hx => by
  cases h : isBl x with
  | false => rfl
  | true => have := isBl_s.mp h; omega
set_option maxRecDepth 100000 in
theorem pas_dg : Pas isDg := fun x hx => by
  cases h : isDg x with
  | false => rfl
  | true => have := isDg_s.mp h; omega
set_option maxRecDepth 100000 in
theorem pas_lt : Pas isLt := fun x hx => by
  cases h : isLt x with
  | false => rfl
  | true => have := isLt_s.mp h; omega
section TP
variable {T U : Nat → Int} {L : Nat}
set_option maxRecDepth 100000 in
theorem tpR_P (h : tpR T U L) {P : Int → Bool} (hP : Pas P) {i : Nat} (hi : i < L) : P (U i) = P (T i) := by
  rcases h i hi with z | ⟨z1, z2⟩
  · rw [z]
  · rw [hP _ (Or.inr z2), hP _ (Or.inl z1)]
set_option maxRecDepth 100000 in
theorem tpR_c (h : tpR T U L) {i : Nat} (hi : i < L) {c : Int} (h0 : 0 ≤ c) (h1 : c ≤ 127) : U i = c ↔ T i = c := by
  rcases h i hi with z | ⟨z1, z2⟩
  · rw [z]
  · constructor
    · intro w; omega
    · intro w; omega
set_option maxRecDepth 100000 in
theorem skn_eq (h : tpR T U L) {P : Int → Bool} (hP : Pas P) : ∀ n q, skn P U L n q = skn P T L n q
  | 0, _ => rfl
  | n + 1, q => by
    show (if q < L then (if P (U q) = true then skn P U L n (q + 1) else q) else q) = (if q < L then (if P (T q) = true then skn P T L n (q + 1) else q) else q)
    by_cases hq : q < L
    · rw [if_pos hq, if_pos hq, tpR_P h hP hq, skn_eq h hP n (q + 1)]
    · rw [if_neg hq, if_neg hq]
set_option maxRecDepth 100000 in
theorem sk_eq (h : tpR T U L) {P : Int → Bool} (hP : Pas P) (q : Nat) : sk P U L q = sk P T L q := skn_eq h hP _ _
set_option maxRecDepth 100000 in
theorem txm_eq (h : tpR T U L) : ∀ (u : List Nat) (s : Nat), s + u.length ≤ L → (∀ c, c ∈ u → c ≤ 127) → txm U u s = txm T u s
  | [], _, _, _ => rfl
  | c :: u, s, hs, hc => by
    simp only [List.length_cons] at hs
    have h1 : (U s = (c : Int)) ↔ (T s = (c : Int)) := tpR_c h (by omega) (by omega) (by have := hc c List.mem_cons_self; omega)
    show (decide (U s = (c : Int)) && txm U u (s + 1)) = (decide (T s = (c : Int)) && txm T u (s + 1))
    rw [txm_eq h u (s + 1) (by omega) (fun d hd => hc d (List.mem_cons_of_mem _ hd)), decide_eq_decide.mpr h1]
set_option maxRecDepth 100000 in
theorem txq_eq (h : tpR T U L) {s e : Nat} (he : e ≤ L) {u : List Nat} (hc : ∀ c, c ∈ u → c ≤ 127) : txq U s e u = txq T s e u := by
  unfold txq
  by_cases h1 : e = s + u.length
  · rw [txm_eq h u s (by omega) hc]
  · rw [decide_eq_false h1, Bool.false_and, Bool.false_and]
set_option maxRecDepth 100000 in
theorem vln_eq (h : tpR T U L) {s : Nat} : ∀ n, s + n ≤ L → (∀ i, i < n → isDg (T (s + i)) = true) → vln U s n = vln T s n
  | 0, _, _ => rfl
  | n + 1, hn, hd => by
    show 10 * vln U s n + (U (s + n) - 48) = 10 * vln T s n + (T (s + n) - 48)
    rw [vln_eq h n (by omega) (fun i hi => hd i (by omega))]
    have h1 := isDg_s.mp (hd n (by omega))
    rcases h (s + n) (by omega) with z | ⟨z1, z2⟩
    · rw [z]
    · omega
/-! what stands at a place of a text -/
/-- that word -/
def wq (T : Nat → Int) (L q : Nat) (u : List Nat) : Bool := decide (tkK T L q = 2) && txq T (tkS T L q) (tkE T L q) u
/-- that sign -/
def sq (T : Nat → Int) (L q : Nat) (c : Int) : Bool := decide (tkK T L q = 3) && decide (T (tkS T L q) = c)
/-- a number of so many figures at most -/
def nq (T : Nat → Int) (L q n : Nat) : Bool := decide (tkK T L q = 1) && decide (tkE T L q - tkS T L q ≤ n)
set_option maxRecDepth 100000 in
theorem tkS_le {q : Nat} (h : q ≤ L) : tkS T L q ≤ L := sk_le h
set_option maxRecDepth 100000 in
theorem tkS_ge {q : Nat} : q ≤ tkS T L q := sk_ge
set_option maxRecDepth 100000 in
theorem tkE_b {q : Nat} (h : q ≤ L) : tkS T L q ≤ tkE T L q ∧ tkE T L q ≤ L := by
  have h1 := tkS_le (T := T) h
  unfold tkE kE
  by_cases a0 : kK T L (tkS T L q) = 0
  · rw [if_pos a0]; exact ⟨Nat.le_refl _, h1⟩
  · rw [if_neg a0]
    by_cases a1 : kK T L (tkS T L q) = 1
    · rw [if_pos a1]; exact ⟨sk_ge, sk_le h1⟩
    · rw [if_neg a1]
      by_cases a2 : kK T L (tkS T L q) = 2
      · rw [if_pos a2]; exact ⟨sk_ge, sk_le h1⟩
      · rw [if_neg a2]
        refine ⟨by omega, ?_⟩
        by_cases hl : L ≤ tkS T L q
        · exact absurd (by unfold kK; rw [if_pos hl]) a0
        · omega
set_option maxRecDepth 100000 in
theorem tkE_gt {q : Nat} (h : tkK T L q ≠ 0) : tkS T L q < tkE T L q := by
  have h : kK T L (tkS T L q) ≠ 0 := h
  unfold tkE kE
  rw [if_neg h]
  have hl : ¬ L ≤ tkS T L q := fun z => h (by unfold kK; rw [if_pos z])
  by_cases a1 : kK T L (tkS T L q) = 1
  · rw [if_pos a1]
    have hd : isDg (T (tkS T L q)) = true := by
      unfold kK at a1
      rw [if_neg hl] at a1
      by_cases hd : isDg (T (tkS T L q)) = true
      · exact hd
      · rw [if_neg hd] at a1
        split at a1 <;> omega
    rw [sk_s (by omega) hd]
    have := sk_ge (P := isDg) (T := T) (L := L) (q := tkS T L q + 1)
    omega
  · rw [if_neg a1]
    by_cases a2 : kK T L (tkS T L q) = 2
    · rw [if_pos a2]
      have hd : isLt (T (tkS T L q)) = true := by
        unfold kK at a2
        rw [if_neg hl] at a2
        by_cases hd : isDg (T (tkS T L q)) = true
        · rw [if_pos hd] at a2; omega
        · rw [if_neg hd] at a2
          by_cases hl2 : isLt (T (tkS T L q)) = true
          · exact hl2
          · rw [if_neg hl2] at a2; omega
      rw [sk_s (by omega) hd]
      have := sk_ge (P := isLt) (T := T) (L := L) (q := tkS T L q + 1)
      omega
    · rw [if_neg a2]
      omega
set_option maxRecDepth 100000 in
theorem wq_m {q : Nat} {u : List Nat} (hu : u ≠ []) (hq : q ≤ L) : txq T (tkS T L q) (sk isLt T L (tkS T L q)) u = wq T L q u := by
  have hle := tkS_le (T := T) hq
  unfold wq
  by_cases a2 : tkK T L q = 2
  · have e2 : tkE T L q = sk isLt T L (tkS T L q) := by
      have a2 : kK T L (tkS T L q) = 2 := a2
      unfold tkE kE
      rw [if_neg (by omega), if_neg (by omega), if_pos a2]
    rw [decide_eq_true a2, Bool.true_and, e2]
  · rw [decide_eq_false a2, Bool.false_and]
    have hn : sk isLt T L (tkS T L q) = tkS T L q := by
      refine sk_e fun hl => ?_
      cases h2 : isLt (T (tkS T L q)) with
      | false => rfl
      | true =>
        have b2 := isLt_s.mp h2
        have hd : ¬ isDg (T (tkS T L q)) = true := fun z => by have := isDg_s.mp z; omega
        exact absurd (show kK T L (tkS T L q) = 2 by unfold kK; rw [if_neg (by omega), if_neg hd, if_pos h2]) a2
    rw [hn]
    unfold txq
    have : ¬ tkS T L q = tkS T L q + u.length := by
      intro z
      exact hu (List.length_eq_zero_iff.mp (by omega))
    rw [decide_eq_false this, Bool.false_and]
end TP
