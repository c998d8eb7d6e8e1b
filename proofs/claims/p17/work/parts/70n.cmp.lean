/-! the class's comparison, exactly -/
/-- the token at s is the one that the tape holds -/
def CT (h : zH) (T : Nat → Int) (L s : Nat) : Prop := (h.2.1 1 1).toInt = (L : Int) ∧ (h.2.1 1 2).toInt = (kK T L s : Int) ∧ (h.2.1 1 3).toInt = (s : Int) ∧ (h.2.1 1 4).toInt = (kE T L s : Int) ∧ (h.2.1 1 5).toInt = kV T L s
set_option maxRecDepth 100000 in
theorem kE_b {T : Nat → Int} {L s : Nat} (h : s ≤ L) (hc : sk isBl T L s = s) : s ≤ kE T L s ∧ kE T L s ≤ L := by
  have := tkE_b (T := T) (L := L) (q := s) h
  unfold tkE tkS at this
  rw [hc] at this
  exact this
set_option maxRecDepth 100000 in
theorem tp2_e {h1 h2 : zH} (a : ∀ i, h2.2.1 2 i = h1.2.1 2 i) : tp2 h2 = tp2 h1 := by
  funext i
  unfold tp2
  rw [a]
set_option maxRecDepth 100000 in
theorem zmi181 : zat zmi 181 = some (1, 2, 0, 9, 0, 0) := rfl
section CC
variable {E : zE} {B F : Nat} {h0 h : zH} {L s : Nat}
set_option maxRecDepth 100000 in
theorem cadv (hE : E.1 < 2147483648) (hsm : bSO E ctb B (60, smT)) (hb9 : ∀ i, 0 ≤ tp2 h0 i ∧ tp2 h0 i ≤ 255) (hF : 1000000 ≤ F) (hL4 : L ≤ 400) (hs : s ≤ L) (hc : sk isBl (tp2 h0) L s = s) (hr : bRQ ctb wC h0 0 0 h) (ht : CT h (tp2 h0) L s) :
    ∀ d f, 60 ≤ d → B + F * 900 ≤ f → ∃ h', zex E f d 181 0 [some (.ref 1), none] [] h = some (.inl none, h') ∧ bRQ ctb wC h0 0 0 h' ∧ CT h' (tp2 h0) L (nxt (tp2 h0) L s) := by
  intro d f hd hf
  have hT : tp2 h = tp2 h0 := tp2_e fun i => wC_2 hr i
  have hk := kE_b hs hc
  obtain ⟨h', e1, k1, k2, k3, k4, k5, k6⟩ := adv (h := h) hE hsm (by rw [hT]; exact hb9) hF hL4 (q := kE (tp2 h0) L s) hk.2 hr.1 hr.2.1 hr.2.2.1 ht.1 ht.2.2.2.1 d f hd hf
  rw [hT] at k3 k4 k5 k6
  exact ⟨h', e1, bRQ_tr hr k1, k2, k3, k4, k5, k6⟩
set_option maxRecDepth 100000 in
theorem firstq_b {T : Nat → Int} {s e : Nat} : ∀ (ws : List (List Nat)) (k : Nat), (firstq T s e ws k = -1 ↔ ws.any (txq T s e) = false) ∧ (firstq T s e ws k ≠ -1 → (k : Int) ≤ firstq T s e ws k ∧ firstq T s e ws k < (k + ws.length : Nat))
  | [], k => ⟨⟨fun _ => rfl, fun _ => rfl⟩, fun z => absurd rfl z⟩
  | u :: ws, k => by
    obtain ⟨h1, h2⟩ := firstq_b (T := T) (s := s) (e := e) ws (k + 1)
    show ((if txq T s e u = true then (k : Int) else firstq T s e ws (k + 1)) = -1 ↔ (txq T s e u || ws.any (txq T s e)) = false) ∧ ((if txq T s e u = true then (k : Int) else firstq T s e ws (k + 1)) ≠ -1 → (k : Int) ≤ (if txq T s e u = true then (k : Int) else firstq T s e ws (k + 1)) ∧ (if txq T s e u = true then (k : Int) else firstq T s e ws (k + 1)) < (k + (u :: ws).length : Nat))
    cases h3 : txq T s e u with
    | true =>
      rw [if_pos rfl, Bool.true_or]
      refine ⟨⟨fun z => by omega, fun z => by cases z⟩, fun _ => ⟨Int.le_refl _, ?_⟩⟩
      simp only [List.length_cons]
      omega
    | false =>
      rw [if_neg (by decide), Bool.false_or]
      refine ⟨h1, fun z => ?_⟩
      have := h2 z
      simp only [List.length_cons]
      omega
set_option maxRecDepth 100000 in
theorem wrd_b {T : Nat → Int} {ws : List (List Nat)} : (wrd T (kK T L s) s (kE T L s) ws = -1 ↔ ws.any (wqs T L s) = false) ∧ (wrd T (kK T L s) s (kE T L s) ws ≠ -1 → kK T L s = 2 ∧ 0 ≤ wrd T (kK T L s) s (kE T L s) ws ∧ wrd T (kK T L s) s (kE T L s) ws < ws.length) := by
  unfold wrd
  by_cases h2 : kK T L s = 2
  · rw [if_pos h2]
    obtain ⟨h1, h3⟩ := firstq_b (T := T) (s := s) (e := kE T L s) ws 0
    have e1 : ws.any (wqs T L s) = ws.any (txq T s (kE T L s)) := by
      congr 1
      funext u
      unfold wqs
      rw [decide_eq_true h2, Bool.true_and]
    rw [e1]
    exact ⟨h1, fun z => ⟨h2, by have := h3 z; omega, by have := h3 z; omega⟩⟩
  · rw [if_neg h2]
    refine ⟨⟨fun _ => ?_, fun _ => rfl⟩, fun z => absurd rfl z⟩
    rw [List.any_eq_false]
    intro u _
    unfold wqs
    rw [decide_eq_false h2, Bool.false_and]
    decide
end CC
section SU
variable {T : Nat → Int} {L : Nat}
set_option maxRecDepth 100000 in
theorem facq_s {s e : Nat} (h : facq T L s = some e) : e = nxt T L s ∧ kK T L s ≠ 0 := by
  unfold facq at h
  split at h
  · rename_i hh
    cases h
    refine ⟨rfl, ?_⟩
    rw [Bool.or_eq_true] at hh
    rcases hh with z | z
    · obtain ⟨u, -, hu⟩ := List.any_eq_true.mp z
      exact wqs_K hu
    · exact nqs_K z
  · cases h
set_option maxRecDepth 100000 in
theorem sumq_f : ∀ (n m s : Nat), sk isBl T L s = s → L < s + n → L < s + m → sumq T L n s = sumq T L m s
  | 0, 0, _, _, _, _ => rfl
  | 0, m + 1, s, hc, h1, _ => by
    have hk : kK T L s = 0 := kK_0.mpr (by omega)
    show (Sum.inr s : Nat ⊕ Nat) = (match facq T L s with
      | none => Sum.inr s
      | some e => if sqs T L e 43 = true then sumq T L m (nxt T L e) else .inl e)
    cases hf : facq T L s with
    | none => rfl
    | some e => exact absurd hk (facq_s hf).2
  | n + 1, 0, s, hc, _, h2 => by
    have hk : kK T L s = 0 := kK_0.mpr (by omega)
    show (match facq T L s with
      | none => Sum.inr s
      | some e => if sqs T L e 43 = true then sumq T L n (nxt T L e) else .inl e) = (Sum.inr s : Nat ⊕ Nat)
    cases hf : facq T L s with
    | none => rfl
    | some e => exact absurd hk (facq_s hf).2
  | n + 1, m + 1, s, hc, h1, h2 => by
    show (match facq T L s with
      | none => Sum.inr s
      | some e => if sqs T L e 43 = true then sumq T L n (nxt T L e) else Sum.inl e) = (match facq T L s with
      | none => Sum.inr s
      | some e => if sqs T L e 43 = true then sumq T L m (nxt T L e) else .inl e)
    cases hf : facq T L s with
    | none => rfl
    | some e =>
      obtain ⟨e1, e2⟩ := facq_s hf
      have g1 := nxt_gt hc e2
      have hce : sk isBl T L e = e := by rw [e1]; exact nxt_c
      show (if sqs T L e 43 = true then sumq T L n (nxt T L e) else .inl e) = (if sqs T L e 43 = true then sumq T L m (nxt T L e) else .inl e)
      by_cases hs : sqs T L e 43 = true
      · rw [if_pos hs, if_pos hs]
        have g2 := nxt_gt hce (sqs_K hs)
        exact sumq_f n m (nxt T L e) nxt_c (by omega) (by omega)
      · rw [if_neg hs, if_neg hs]
end SU
