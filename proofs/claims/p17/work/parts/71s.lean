/-! both tapes of the same bytes: the same law -/
section LR
variable {T U : Nat → Int} {L : Nat}
set_option maxRecDepth 100000 in
theorem kK_q (h : tpR T U L) (s : Nat) : kK U L s = kK T L s := by
  unfold kK
  by_cases hs : L ≤ s
  · rw [if_pos hs, if_pos hs]
  · rw [if_neg hs, if_neg hs, tpR_P h pas_dg (by omega), tpR_P h pas_lt (by omega)]
set_option maxRecDepth 100000 in
theorem kE_q (h : tpR T U L) (s : Nat) : kE U L s = kE T L s := by
  unfold kE
  rw [kK_q h, sk_eq h pas_dg, sk_eq h pas_lt]
set_option maxRecDepth 100000 in
theorem nx_q (h : tpR T U L) (s : Nat) : nxt U L s = nxt T L s := by
  unfold nxt
  rw [kE_q h, sk_eq h pas_bl]
set_option maxRecDepth 100000 in
theorem kK_l {s : Nat} (h : kK T L s ≠ 0) : s < L := by
  by_cases hl : L ≤ s
  · exact absurd (by unfold kK; rw [if_pos hl]) h
  · omega
set_option maxRecDepth 100000 in
theorem wq_q (h : tpR T U L) (s : Nat) {u : List Nat} (hu : ∀ c, c ∈ u → c ≤ 127) : wqs U L s u = wqs T L s u := by
  unfold wqs
  rw [kK_q h, kE_q h]
  by_cases h2 : kK T L s = 2
  · have hs := kK_l (T := T) (L := L) (s := s) (by omega)
    rw [txq_eq h (by rw [kE_2 h2]; exact sk_le (Nat.le_of_lt hs)) hu]
  · rw [decide_eq_false h2, Bool.false_and, Bool.false_and]
set_option maxRecDepth 100000 in
theorem sq_q (h : tpR T U L) (s : Nat) {c : Int} (h0 : 0 ≤ c) (h1 : c ≤ 127) : sqs U L s c = sqs T L s c := by
  unfold sqs
  rw [kK_q h]
  by_cases h2 : kK T L s = 3
  · have hs := kK_l (T := T) (L := L) (s := s) (by omega)
    rw [decide_eq_decide.mpr (tpR_c h hs h0 h1)]
  · rw [decide_eq_false h2, Bool.false_and, Bool.false_and]
set_option maxRecDepth 100000 in
theorem nq_q (h : tpR T U L) (s n : Nat) : nqs U L s n = nqs T L s n := by
  unfold nqs
  rw [kK_q h, kE_q h]
set_option maxRecDepth 100000 in
theorem wa_q (h : tpR T U L) (s : Nat) : ∀ {l : List (List Nat)}, (∀ u, u ∈ l → ∀ c, c ∈ u → c ≤ 127) → l.any (wqs U L s) = l.any (wqs T L s)
  | [], _ => rfl
  | u :: l, hu => by
    rw [List.any_cons, List.any_cons, wq_q h s (hu u List.mem_cons_self), wa_q h s (l := l) fun u2 h2 => hu u2 (List.mem_cons_of_mem _ h2)]
set_option maxRecDepth 100000 in
theorem uF127 : ∀ u, u ∈ uFacts → ∀ c, c ∈ u → c ≤ 127 := by decide
set_option maxRecDepth 100000 in
theorem uS127 : ∀ u, u ∈ uSorts → ∀ c, c ∈ u → c ≤ 127 := by decide
set_option maxRecDepth 100000 in
theorem uK127 : ∀ u, u ∈ uKinds → ∀ c, c ∈ u → c ≤ 127 := by decide
set_option maxRecDepth 100000 in
theorem uA127 : ∀ c, c ∈ uAnd → c ≤ 127 := by decide
set_option maxRecDepth 100000 in
theorem uO127 : ∀ c, c ∈ uOr → c ≤ 127 := by decide
set_option maxRecDepth 100000 in
theorem uN127 : ∀ c, c ∈ uNot → c ≤ 127 := by decide
set_option maxRecDepth 100000 in
theorem uI127 : ∀ c, c ∈ uIf → c ≤ 127 := by decide
set_option maxRecDepth 100000 in
theorem uW127 : ∀ c, c ∈ uWet → c ≤ 127 := by decide
set_option maxRecDepth 100000 in
theorem facq_q (h : tpR T U L) (s : Nat) : facq U L s = facq T L s := by
  unfold facq
  simp only [nx_q h, nq_q h]
  rw [wa_q h s uF127]
set_option maxRecDepth 100000 in
theorem sumq_q (h : tpR T U L) : ∀ n s, sumq U L n s = sumq T L n s
  | 0, _ => rfl
  | n + 1, s => by
    unfold sumq
    rw [facq_q h]
    cases facq T L s with
    | none => rfl
    | some e =>
      show (if sqs U L e 43 = true then sumq U L n (nxt U L e) else .inl e) = (if sqs T L e 43 = true then sumq T L n (nxt T L e) else .inl e)
      rw [sq_q h e (c := 43) (by decide) (by decide), nx_q h, sumq_q h n]
set_option maxRecDepth 100000 in
theorem cmpq_q (h : tpR T U L) (n s : Nat) : cmpq U L n s = cmpq T L n s := by
  unfold cmpq
  rw [sumq_q h]
  cases sumq T L n s with
  | inr w => rfl
  | inl e =>
    show (if (sqs U L e 60 || sqs U L e 62) = true then sumq U L n (nxt U L e) else .inr e) = (if (sqs T L e 60 || sqs T L e 62) = true then sumq T L n (nxt T L e) else .inr e)
    rw [sq_q h e (c := 60) (by decide) (by decide), sq_q h e (c := 62) (by decide) (by decide), nx_q h, sumq_q h]
set_option maxRecDepth 100000 in
theorem pq_q (h : tpR T U L) : ∀ n b d s, pq U L n b d s = pq T L n b d s
  | 0, _, _, _ => rfl
  | n + 1, false, d, s => by
    unfold pq
    rw [wq_q h s uN127, sq_q h s (c := 40) (by decide) (by decide), pq_q h n false, wa_q h s uS127, wq_q h s uW127, cmpq_q h, nx_q h, pq_q h n true]
    cases pq T L n true (d + 1) (nxt T L s) with
    | inr w => rfl
    | inl e =>
      dsimp only
      rw [sq_q h e (c := 41) (by decide) (by decide), nx_q h]
  | n + 1, true, d, s => by
    unfold pq
    rw [pq_q h n false]
    cases pq T L n false d s with
    | inr w => rfl
    | inl e =>
      show (if (wqs U L e uAnd || wqs U L e uOr) = true then pq U L n true d (nxt U L e) else .inl e) = (if (wqs T L e uAnd || wqs T L e uOr) = true then pq T L n true d (nxt T L e) else .inl e)
      rw [wq_q h e uA127, wq_q h e uO127, nx_q h, pq_q h n]
set_option maxRecDepth 100000 in
theorem lnq_q (h : tpR T U L) (s : Nat) : lnq U L s = lnq T L s := by
  unfold lnq
  simp only [nx_q h, nq_q h, pq_q h]
  rw [wa_q h s uK127, wq_q h _ uI127]
set_option maxRecDepth 100000 in
theorem lsq_q (h : tpR T U L) : ∀ k i s, lsq U L k i s = lsq T L k i s
  | 0, _, _ => rfl
  | k + 1, i, s => by
    unfold lsq
    rw [lnq_q h]
    cases lnq T L s with
    | inr w => rfl
    | inl e =>
      show (if L ≤ e then .inl (i + 1) else if sqs U L e 59 = true then lsq U L k (i + 1) (nxt U L e) else .inr e : Nat ⊕ Nat) = (if L ≤ e then .inl (i + 1) else if sqs T L e 59 = true then lsq T L k (i + 1) (nxt T L e) else .inr e)
      rw [sq_q h e (c := 59) (by decide) (by decide), nx_q h, lsq_q h k]
set_option maxRecDepth 100000 in
theorem lawq_q (h : tpR T U L) : lawq U L = lawq T L := by
  unfold lawq
  rw [sk_eq h pas_bl, lsq_q h]
end LR
