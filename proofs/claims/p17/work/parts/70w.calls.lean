/-! the class's law reader: calls that are known exactly, and where pieces go on -/
def gd (T : Nat → Int) (L s e : Nat) : Prop := s < e ∧ e ≤ L ∧ sk isBl T L e = e
set_option maxRecDepth 100000 in
theorem gd_n {T : Nat → Int} {L s : Nat} (hs : s ≤ L) (hc : sk isBl T L s = s) (h : kK T L s ≠ 0) : gd T L s (nxt T L s) := ⟨nxt_gt hc h, nxt_le hs, nxt_c⟩
set_option maxRecDepth 100000 in
theorem gd_t {T : Nat → Int} {L s e e2 : Nat} (h1 : gd T L s e) (h2 : gd T L e e2) : gd T L s e2 := ⟨Nat.lt_trans h1.1 h2.1, h2.2⟩
set_option maxRecDepth 100000 in
theorem sumq_g {T : Nat → Int} {L : Nat} : ∀ (n s e : Nat), s ≤ L → sk isBl T L s = s → sumq T L n s = .inl e → gd T L s e
  | 0, s, e, _, _, h => by cases h
  | n + 1, s, e, hs, hc, h => by
    cases hf : facq T L s with
    | none => rw [sumq_n hf] at h; cases h
    | some e1 =>
      rw [sumq_p hf] at h
      obtain ⟨a1, a2⟩ := facq_s hf
      have g1 := gd_n hs hc a2
      rw [← a1] at g1
      by_cases hp : sqs T L e1 43 = true
      · rw [if_pos hp] at h
        have g2 := gd_n g1.2.1 g1.2.2 (sqs_K hp)
        exact gd_t g1 (gd_t g2 (sumq_g n _ e g2.2.1 g2.2.2 h))
      · rw [if_neg hp] at h
        cases h
        exact g1
set_option maxRecDepth 100000 in
theorem cmpq_i {T : Nat → Int} {L n s e : Nat} (h : sumq T L n s = .inl e) : cmpq T L n s = if (sqs T L e 60 || sqs T L e 62) = true then sumq T L n (nxt T L e) else .inr e := by
  unfold cmpq
  rw [h]
set_option maxRecDepth 100000 in
theorem cmpq_r {T : Nat → Int} {L n s w : Nat} (h : sumq T L n s = .inr w) : cmpq T L n s = .inr w := by
  unfold cmpq
  rw [h]
set_option maxRecDepth 100000 in
theorem cmpq_g {T : Nat → Int} {L n s e : Nat} (hs : s ≤ L) (hc : sk isBl T L s = s) (h : cmpq T L n s = .inl e) : gd T L s e := by
  cases h1 : sumq T L n s with
  | inr w => rw [cmpq_r h1] at h; cases h
  | inl e1 =>
    rw [cmpq_i h1] at h
    have g1 := sumq_g n s e1 hs hc h1
    by_cases hp : (sqs T L e1 60 || sqs T L e1 62) = true
    · rw [if_pos hp] at h
      have hk : kK T L e1 ≠ 0 := by
        rw [Bool.or_eq_true] at hp
        rcases hp with z | z
        · exact sqs_K z
        · exact sqs_K z
      have g2 := gd_n g1.2.1 g1.2.2 hk
      exact gd_t g1 (gd_t g2 (sumq_g n _ e g2.2.1 g2.2.2 h))
    · rw [if_neg hp] at h
      cases h
set_option maxRecDepth 100000 in
theorem pq_tr {T : Nat → Int} {L n d s w : Nat} (h : pq T L n false d s = .inr w) : pq T L (n + 1) true d s = .inr w := by
  show (match pq T L n false d s with
    | .inr w => Sum.inr w
    | .inl e => if (wqs T L e uAnd || wqs T L e uOr) = true then pq T L n true d (nxt T L e) else Sum.inl e) = (.inr w : Nat ⊕ Nat)
  rw [h]
set_option maxRecDepth 100000 in
theorem pq_ti {T : Nat → Int} {L n d s e : Nat} (h : pq T L n false d s = .inl e) : pq T L (n + 1) true d s = if (wqs T L e uAnd || wqs T L e uOr) = true then pq T L n true d (nxt T L e) else .inl e := by
  show (match pq T L n false d s with
    | .inr w => Sum.inr w
    | .inl e => if (wqs T L e uAnd || wqs T L e uOr) = true then pq T L n true d (nxt T L e) else Sum.inl e) = _
  rw [h]
/-- what stands behind a bracket's condition -/
def brq (T : Nat → Int) (L : Nat) (o : Nat ⊕ Nat) : Nat ⊕ Nat := match o with
  | .inr w => .inr w
  | .inl e => if sqs T L e 41 = true then .inl (nxt T L e) else .inr e
set_option maxRecDepth 100000 in
theorem pq_f {T : Nat → Int} {L n d s : Nat} : pq T L (n + 1) false d s = if wqs T L s uNot = true then (if 6 ≤ d then .inr s else pq T L n false (d + 1) (nxt T L s)) else
    if sqs T L s 40 = true then (if 6 ≤ d then .inr s else brq T L (pq T L n true (d + 1) (nxt T L s))) else
    if (uSorts.any (wqs T L s) || wqs T L s uWet) = true then .inl (nxt T L s) else cmpq T L 401 s := rfl
set_option maxRecDepth 100000 in
theorem wqs_any {T : Nat → Int} {L s : Nat} {ws : List (List Nat)} (h : ws.any (wqs T L s) = true) : kK T L s ≠ 0 := by
  obtain ⟨u, -, hu⟩ := List.any_eq_true.mp h
  exact wqs_K hu
set_option maxRecDepth 100000 in
theorem orK {T : Nat → Int} {L e : Nat} {a b : List Nat} (h : (wqs T L e a || wqs T L e b) = true) : kK T L e ≠ 0 := by
  rw [Bool.or_eq_true] at h
  rcases h with z | z
  · exact wqs_K z
  · exact wqs_K z
set_option maxRecDepth 100000 in
theorem swK {T : Nat → Int} {L s : Nat} {ws : List (List Nat)} {b : List Nat} (h : (ws.any (wqs T L s) || wqs T L s b) = true) : kK T L s ≠ 0 := by
  rw [Bool.or_eq_true] at h
  rcases h with z | z
  · exact wqs_any z
  · exact wqs_K z
set_option maxRecDepth 100000 in
theorem pq_g {T : Nat → Int} {L : Nat} : ∀ (n : Nat) (b : Bool) (d s e : Nat), s ≤ L → sk isBl T L s = s → pq T L n b d s = .inl e → gd T L s e
  | 0, b, d, s, e, _, _, h => by cases b <;> cases h
  | n + 1, false, d, s, e, hs, hc, h => by
    rw [pq_f] at h
    by_cases h1 : wqs T L s uNot = true
    · rw [if_pos h1] at h
      by_cases h2 : 6 ≤ d
      · rw [if_pos h2] at h; cases h
      · rw [if_neg h2] at h
        have g1 := gd_n hs hc (wqs_K h1)
        exact gd_t g1 (pq_g n false (d + 1) _ e g1.2.1 g1.2.2 h)
    · rw [if_neg h1] at h
      by_cases h3 : sqs T L s 40 = true
      · rw [if_pos h3] at h
        by_cases h2 : 6 ≤ d
        · rw [if_pos h2] at h; cases h
        · rw [if_neg h2] at h
          have g1 := gd_n hs hc (sqs_K h3)
          cases hb : pq T L n true (d + 1) (nxt T L s) with
          | inr w => rw [hb] at h; cases h
          | inl e1 =>
            rw [hb] at h
            have g2 := gd_t g1 (pq_g n true (d + 1) _ e1 g1.2.1 g1.2.2 hb)
            have h : (if sqs T L e1 41 = true then (.inl (nxt T L e1) : Nat ⊕ Nat) else .inr e1) = .inl e := h
            by_cases h4 : sqs T L e1 41 = true
            · rw [if_pos h4] at h
              cases h
              exact gd_t g2 (gd_n g2.2.1 g2.2.2 (sqs_K h4))
            · rw [if_neg h4] at h
              cases h
      · rw [if_neg h3] at h
        by_cases h4 : (uSorts.any (wqs T L s) || wqs T L s uWet) = true
        · rw [if_pos h4] at h
          cases h
          exact gd_n hs hc (swK h4)
        · rw [if_neg h4] at h
          exact cmpq_g hs hc h
  | n + 1, true, d, s, e, hs, hc, h => by
    cases hb : pq T L n false d s with
    | inr w => rw [pq_tr hb] at h; cases h
    | inl e1 =>
      rw [pq_ti hb] at h
      have g1 := pq_g n false d s e1 hs hc hb
      by_cases h1 : (wqs T L e1 uAnd || wqs T L e1 uOr) = true
      · rw [if_pos h1] at h
        have g2 := gd_n g1.2.1 g1.2.2 (orK h1)
        exact gd_t g1 (gd_t g2 (pq_g n true d _ e g2.2.1 g2.2.2 h))
      · rw [if_neg h1] at h
        cases h
        exact g1
set_option maxRecDepth 100000 in
theorem lnq_g {T : Nat → Int} {L s e : Nat} (hs : s ≤ L) (hc : sk isBl T L s = s) (h : lnq T L s = .inl e) : gd T L s e := by
  unfold lnq at h
  by_cases h1 : uKinds.any (wqs T L s) = true
  · rw [if_pos h1] at h
    have g1 := gd_n hs hc (wqs_any h1)
    by_cases h2 : nqs T L (nxt T L s) 3 = true
    · rw [if_pos h2] at h
      have g2 := gd_t g1 (gd_n g1.2.1 g1.2.2 (nqs_K h2))
      by_cases h3 : wqs T L (nxt T L (nxt T L s)) uIf = true
      · rw [if_pos h3] at h
        have g3 := gd_t g2 (gd_n g2.2.1 g2.2.2 (wqs_K h3))
        exact gd_t g3 (pq_g 1000 true 0 _ e g3.2.1 g3.2.2 h)
      · rw [if_neg h3] at h
        cases h
        exact g2
    · rw [if_neg h2] at h
      cases h
  · rw [if_neg h1] at h
    cases h
set_option maxRecDepth 100000 in
theorem pq_0 {T : Nat → Int} {L s : Nat} (hk : kK T L s = 0) : ∀ (n : Nat) (b : Bool) (d : Nat), pq T L n b d s = .inr s
  | 0, b, d => by cases b <;> rfl
  | n + 1, false, d => by
    rw [pq_f]
    have w : ∀ u, wqs T L s u = false := fun u => by
      cases h : wqs T L s u with
      | false => rfl
      | true => exact absurd hk (wqs_K h)
    have w2 : uSorts.any (wqs T L s) = false := by
      cases h : uSorts.any (wqs T L s) with
      | false => rfl
      | true => exact absurd hk (wqs_any h)
    have w3 : sqs T L s 40 = false := by
      cases h : sqs T L s 40 with
      | false => rfl
      | true => exact absurd hk (sqs_K h)
    have w4 : facq T L s = none := by
      cases h : facq T L s with
      | none => rfl
      | some e => exact absurd hk (facq_s h).2
    rw [w uNot, w3, w2, w uWet, if_neg (by decide), if_neg (by decide), if_neg (by decide)]
    exact cmpq_r (sumq_n w4)
  | n + 1, true, d => pq_tr (pq_0 hk n false d)
/-! calls that are known exactly -/
set_option maxRecDepth 100000 in
theorem cs76 : bg2 ctb 76 = some (.inr (.inl (6, [some (some 77), none]))) := rfl
section QX
variable {E : zE} {B F : Nat} {h0 h : zH} {L s : Nat}
set_option maxRecDepth 100000 in
theorem ct_w0 (hr : bRQ ctb wC h0 0 0 h) (ht : CT h (tp2 h0) L s) {h1 : zH} (e3 : bRQ ctb 0 h 0 0 h1) : bRQ ctb wC h0 0 0 h1 ∧ CT h1 (tp2 h0) L s :=
  ⟨bRQ_tr hr (bRQ_w0 e3), ⟨by rw [b0_eq e3]; exact ht.1, by rw [b0_eq e3]; exact ht.2.1, by rw [b0_eq e3]; exact ht.2.2.1, by rw [b0_eq e3]; exact ht.2.2.2.1, by rw [b0_eq e3]; exact ht.2.2.2.2⟩⟩
set_option maxRecDepth 100000 in
theorem q_isw (hE : E.1 < 2147483648) (hsm : bSO E ctb B (60, smT)) (hb9 : ∀ i, 0 ≤ tp2 h0 i ∧ tp2 h0 i ≤ 255) (hF : 1000000 ≤ F) (hL4 : L ≤ 400) (hs : s ≤ L) (hc : sk isBl (tp2 h0) L s = s) (hr : bRQ ctb wC h0 0 0 h) (ht : CT h (tp2 h0) L s) {w : Nat} (hw : w < 12) {u : List Nat} (hws : waWords w [u] 0 0 = true) (hn : u.length ≤ 90) :
    ∀ d f, 61 ≤ d → B + F * 101 ≤ f → ∃ (x : Int32) (h' : zH), x = (if wqs (tp2 h0) L s u = true then 1 else 0) ∧ bRQ ctb wC h0 0 0 h' ∧ CT h' (tp2 h0) L s ∧ zex E f d 184 0 [some (.ref 1), some (.retAddr w)] [] h = some (.inl (some (.int x)), h') := by
  intro d f hd hf
  have hT : tp2 h = tp2 h0 := tp2_e fun i => wC_2 hr i
  have hk := kE_b hs hc
  obtain ⟨x, h1, e1, e2, e3⟩ := isWord hE hsm hF hr.1 hr.2.1 hr.2.2.1 (e := kE (tp2 h0) L s) (s := s) (K := kK (tp2 h0) L s) (by omega) hk.1 ht.2.1 (kK_b _ _ _) ht.2.2.1 ht.2.2.2.1 (by rw [hT]; exact hb9) hw hws hn d f hd hf
  rw [hT] at e2
  obtain ⟨k1, k2⟩ := ct_w0 hr ht e3
  refine ⟨x, h1, Int32.toInt_inj.mp (e2.trans ?_), k1, k2, e1⟩
  obtain ⟨b1, b2⟩ := wrd_b (T := tp2 h0) (L := L) (s := s) (ws := [u])
  have a1 : [u].any (wqs (tp2 h0) L s) = wqs (tp2 h0) L s u := by
    show (wqs (tp2 h0) L s u || false) = _
    rw [Bool.or_false]
  rw [a1] at b1
  by_cases hq : wqs (tp2 h0) L s u = true
  · have hne : wrd (tp2 h0) (kK (tp2 h0) L s) s (kE (tp2 h0) L s) [u] ≠ -1 := fun z => by
      have := b1.mp z
      rw [hq] at this
      cases this
    have b3 := b2 hne
    have b4 : wrd (tp2 h0) (kK (tp2 h0) L s) s (kE (tp2 h0) L s) [u] < 1 := b3.2.2
    rw [if_pos (show wrd (tp2 h0) (kK (tp2 h0) L s) s (kE (tp2 h0) L s) [u] = 0 by omega), if_pos hq]
    rfl
  · have hm := b1.mpr (bFls hq)
    rw [if_neg (by omega), if_neg hq]
    rfl
set_option maxRecDepth 100000 in
theorem q_wam (hE : E.1 < 2147483648) (hsm : bSO E ctb B (60, smT)) (hb9 : ∀ i, 0 ≤ tp2 h0 i ∧ tp2 h0 i ≤ 255) (hF : 1000000 ≤ F) (hL4 : L ≤ 400) (hs : s ≤ L) (hc : sk isBl (tp2 h0) L s = s) (hr : bRQ ctb wC h0 0 0 h) (ht : CT h (tp2 h0) L s) {w : Nat} (hw : w < 12) {ws : List (List Nat)} (hws : waWords w ws 0 0 = true) (hn : (ws.map fun u => u.length + 1).sum ≤ 97) :
    ∀ d f, 60 ≤ d → B + F * 100 ≤ f → ∃ (x : Int32) (h' : zH), (ws.any (wqs (tp2 h0) L s) = true → 0 ≤ x.toInt ∧ x.toInt < ws.length) ∧ (ws.any (wqs (tp2 h0) L s) = false → x.toInt = -1) ∧ bRQ ctb wC h0 0 0 h' ∧ CT h' (tp2 h0) L s ∧ zex E f d 185 0 [some (.ref 1), some (.retAddr w), none, none, none, none] [] h = some (.inl (some (.int x)), h') := by
  intro d f hd hf
  have hT : tp2 h = tp2 h0 := tp2_e fun i => wC_2 hr i
  have hk := kE_b hs hc
  obtain ⟨x, h1, e1, e2, e3⟩ := wordAmong hE hsm hF hr.1 hr.2.1 hr.2.2.1 (e := kE (tp2 h0) L s) (s := s) (K := kK (tp2 h0) L s) (by omega) hk.1 ht.2.1 (kK_b _ _ _) ht.2.2.1 ht.2.2.2.1 (by rw [hT]; exact hb9) hw hws hn d f hd hf
  rw [hT] at e2
  obtain ⟨k1, k2⟩ := ct_w0 hr ht e3
  obtain ⟨b1, b2⟩ := wrd_b (T := tp2 h0) (L := L) (s := s) (ws := ws)
  refine ⟨x, h1, fun z => ?_, fun z => by rw [e2, b1.mpr z], k1, k2, e1⟩
  have hne : wrd (tp2 h0) (kK (tp2 h0) L s) s (kE (tp2 h0) L s) ws ≠ -1 := fun z2 => by
    have := b1.mp z2
    rw [z] at this
    cases this
  rw [e2]
  exact (b2 hne).2
end QX
