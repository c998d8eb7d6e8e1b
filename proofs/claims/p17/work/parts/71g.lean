/-! the model's atom, what stands between or's, and condition -/
def maP (E : zE) (B H : Nat) (h0 : zH) (L n : Nat) : Prop := ∀ (dp p b k : Nat) (h : zH), dp ≤ 6 → p ≤ L → b ≤ 400 → k + 1 ≤ p → 2 * (L - sk isBl (tp90 h0) L p) + 1 ≤ n → bRQ ctb wN h0 0 0 h → MT h L p b k dp →
  ∀ d f, 64 + 3 * (6 - dp) ≤ d → B + H * (n + 1) ≤ f → moQ h0 L p k dp (pq (tp90 h0) L n false dp (sk isBl (tp90 h0) L p)) (zex E f d 259 0 [some (.ref 84), none] [] h)
/-- atoms with 'and' between them are read: the rest of the condition is as told -/
def alQ (h0 : zH) (L p k dp n : Nat) (X : Nat ⊕ Nat) (o : Option zR) : Prop := ∃ (x : Int32) (h' : zH), o = some (.inl (some (.int x)), h') ∧ bRQ ctb wN h0 0 0 h' ∧ ((∃ w : Nat, X = .inr w ∧ x = 0 ∧ (h'.2.1 84 12).toInt = (w : Int)) ∨
  (x = 1 ∧ ∃ p' b' k' m, MT h' L p' b' k' dp ∧ p' ≤ L ∧ b' ≤ 400 ∧ p ≤ p' ∧ k' + p ≤ k + p' ∧ m ≤ n ∧ 2 * (L - sk isBl (tp90 h0) L p') ≤ m ∧ wqs (tp90 h0) L (sk isBl (tp90 h0) L p') uAnd = false ∧ X = (if wqs (tp90 h0) L (sk isBl (tp90 h0) L p') uOr = true then pq (tp90 h0) L m true dp (nxt (tp90 h0) L (sk isBl (tp90 h0) L p')) else .inl (sk isBl (tp90 h0) L p'))))
def alL (E : zE) (B H : Nat) (h0 : zH) (L n : Nat) : Prop := ∀ (dp p b k : Nat) (h : zH), dp ≤ 6 → p ≤ L → b ≤ 400 → k + 1 ≤ p → 2 * (L - sk isBl (tp90 h0) L p) ≤ n → bRQ ctb wN h0 0 0 h → MT h L p b k dp →
  ∀ d f, 65 + 3 * (6 - dp) ≤ d → B + H * (n + 1) ≤ f → alQ h0 L p k dp n (if (wqs (tp90 h0) L (sk isBl (tp90 h0) L p) uAnd || wqs (tp90 h0) L (sk isBl (tp90 h0) L p) uOr) = true then pq (tp90 h0) L n true dp (nxt (tp90 h0) L (sk isBl (tp90 h0) L p)) else .inl (sk isBl (tp90 h0) L p)) (zex E f d 260 9 [some (.ref 84)] [] h)
def coL (E : zE) (B H : Nat) (h0 : zH) (L n : Nat) : Prop := ∀ (dp p b k : Nat) (h : zH), dp ≤ 6 → p ≤ L → b ≤ 400 → k + 1 ≤ p → 2 * (L - sk isBl (tp90 h0) L p) ≤ n → wqs (tp90 h0) L (sk isBl (tp90 h0) L p) uAnd = false → bRQ ctb wN h0 0 0 h → MT h L p b k dp →
  ∀ d f, 66 + 3 * (6 - dp) ≤ d → B + H * (n + 1) ≤ f → moQ h0 L p k dp (if wqs (tp90 h0) L (sk isBl (tp90 h0) L p) uOr = true then pq (tp90 h0) L n true dp (nxt (tp90 h0) L (sk isBl (tp90 h0) L p)) else .inl (sk isBl (tp90 h0) L p)) (zex E f d 261 9 [some (.ref 84)] [] h)
set_option maxRecDepth 100000 in
theorem alQ_up {h0 : zH} {L p k p2 k2 dp n n2 : Nat} {X : Nat ⊕ Nat} {o : Option zR} (h : alQ h0 L p2 k2 dp n2 X o) (h1 : p ≤ p2) (h2 : k2 + p ≤ k + p2) (h3 : n2 ≤ n) : alQ h0 L p k dp n X o := by
  obtain ⟨x, h', e1, e2, e3⟩ := h
  refine ⟨x, h', e1, e2, ?_⟩
  rcases e3 with e3 | ⟨w1, p9, b9, k9, m9, w2, w3, w4, w5, w6, w7, w8⟩
  · exact Or.inl e3
  · exact Or.inr ⟨w1, p9, b9, k9, m9, w2, w3, w4, by omega, by omega, by omega, w8⟩
set_option maxRecDepth 100000 in
theorem nx_p {T : Nat → Int} {L s : Nat} : nxt T L s = sk isBl T L (kE T L s) := rfl
section MC
variable {E : zE} {B F G H : Nat} {h0 : zH} {L : Nat}
set_option maxRecDepth 100000 in
theorem kE_bb {T : Nat → Int} {s : Nat} (hs : s ≤ L) (hc : sk isBl T L s = s) (hk : kK T L s ≠ 0) : s < kE T L s ∧ kE T L s ≤ L := by
  have h1 := kE_b hs hc
  have h2 := tkE_gt (T := T) (L := L) (q := s)
  unfold tkK tkE tkS at h2
  rw [hc] at h2
  exact ⟨h2 hk, h1.2⟩
set_option maxRecDepth 100000 in
theorem ao_of (hE : E.1 < 2147483648) (hE4 : E.1 ≤ 4000) (hsm : bSO E ctb B (60, smT)) (hF : 1000000 ≤ F) (hL : L ≤ 400) {n : Nat} (hma : maP E B H h0 L n) (hal : alL E B H h0 L n) {dp p b k : Nat} {h : zH} (hdp : dp ≤ 6) (hp : p ≤ L) (hb : b ≤ 400) (hk : k + 1 ≤ p) (hn : 2 * (L - sk isBl (tp90 h0) L p) + 2 ≤ n + 1) (hr : bRQ ctb wN h0 0 0 h) (ht : MT h L p b k dp) :
    ∀ d f, 65 + 3 * (6 - dp) ≤ d → B + H * (n + 1) + F ≤ f → alQ h0 L p k dp n (pq (tp90 h0) L (n + 1) true dp (sk isBl (tp90 h0) L p)) (zex E f d 260 0 [some (.ref 84)] [] h) := by
  intro d f hd hf
  have hs := sk_le (P := isBl) (T := tp90 h0) hp
  have hsg := sk_ge (P := isBl) (T := tp90 h0) (L := L) (q := p)
  obtain ⟨m, hm⟩ : ∃ m, f = m + 2 := ⟨f - 2, by omega⟩
  obtain ⟨d', hd'⟩ : ∃ d', d = d' + 1 := ⟨d - 1, by omega⟩
  subst hd'
  obtain ⟨x, h1, e1, r1, t1⟩ := hma dp p b k h hdp hp hb hk (by omega) hr ht d' m (by omega) (by omega)
  rw [hm, xl_0 (q_84 hr) e1]
  cases hq : pq (tp90 h0) L n false dp (sk isBl (tp90 h0) L p) with
  | inr w =>
    rw [hq] at t1
    obtain ⟨t2, t3⟩ := t1
    subst t2
    rw [pq_tr hq]
    obtain ⟨m3, hm3⟩ : ∃ m3, m = m3 + 3 := ⟨m - 3, by omega⟩
    rw [hm3, xl_4n]
    exact ⟨0, h1, rfl, r1, Or.inl ⟨w, rfl, rfl, t3⟩⟩
  | inl e =>
    rw [hq] at t1
    obtain ⟨t2, p2, b2, k2, t3, u1, u2, u3, u4, u5⟩ := t1
    subst t2
    have hg := pq_g n false dp _ e hs sk_idem hq
    rw [pq_ti hq, ← u3]
    obtain ⟨m3, hm3⟩ : ∃ m3, m = m3 + 1 := ⟨m - 1, by omega⟩
    rw [hm3, xl_4y]
    have hg1 := hg.1
    exact alQ_up (hal dp p2 b2 k2 h1 hdp u1 u2 (by omega) (by omega) r1 t3 (d' + 1) m3 (by omega) (by omega)) u4 u5 (Nat.le_refl _)
set_option maxRecDepth 100000 in
theorem co_of (hE : E.1 < 2147483648) (hE4 : E.1 ≤ 4000) (hsm : bSO E ctb B (60, smT)) (hF : 1000000 ≤ F) (hL : L ≤ 400) {n : Nat} (hma : maP E B H h0 L n) (hal : alL E B H h0 L n) (hco : ∀ m, m ≤ n → coL E B H h0 L m) {dp p b k : Nat} {h : zH} (hdp : dp ≤ 6) (hp : p ≤ L) (hb : b ≤ 400) (hk : k + 1 ≤ p) (hn : 2 * (L - sk isBl (tp90 h0) L p) + 2 ≤ n + 1) (hr : bRQ ctb wN h0 0 0 h) (ht : MT h L p b k dp) :
    ∀ d f, 66 + 3 * (6 - dp) ≤ d → B + H * (n + 1) + F + F ≤ f → moQ h0 L p k dp (pq (tp90 h0) L (n + 1) true dp (sk isBl (tp90 h0) L p)) (zex E f d 261 0 [some (.ref 84)] [] h) := by
  intro d f hd hf
  obtain ⟨m, hm⟩ : ∃ m, f = m + 2 := ⟨f - 2, by omega⟩
  obtain ⟨d', hd'⟩ : ∃ d', d = d' + 1 := ⟨d - 1, by omega⟩
  subst hd'
  obtain ⟨x, h1, e1, r1, t1⟩ := ao_of hE hE4 hsm hF hL hma hal hdp hp hb hk hn hr ht d' m (by omega) (by omega)
  rw [hm, xc_0 (q_84 hr) e1]
  rcases t1 with ⟨w, w1, w2, w3⟩ | ⟨w1, p2, b2, k2, m2, w2, w3, w4, w5, w6, w7, w8, w9, w10⟩
  · subst w2
    rw [w1]
    obtain ⟨m3, hm3⟩ : ∃ m3, m = m3 + 3 := ⟨m - 3, by omega⟩
    rw [hm3, xc_4n]
    exact ⟨0, h1, rfl, r1, rfl, w3⟩
  · subst w1
    rw [w10]
    obtain ⟨m3, hm3⟩ : ∃ m3, m = m3 + 1 := ⟨m - 1, by omega⟩
    rw [hm3, xc_4y]
    have hmon : H * (m2 + 1) ≤ H * (n + 1) := Nat.mul_le_mul_left H (by omega)
    exact moQ_up (hco m2 w7 dp p2 b2 k2 h1 hdp w3 w4 (by omega) w8 w9 r1 w2 (d' + 1) m3 (by omega) (by omega)) w5 w6
set_option maxRecDepth 100000 in
theorem al_s (hE : E.1 < 2147483648) (hE4 : E.1 ≤ 4000) (hsm : bSO E ctb B (60, smT)) (hF : 1000000 ≤ F) (hH : F * 9000 ≤ H) (hL : L ≤ 400) {n : Nat} (hps : ∀ m, n = m + 1 → maP E B H h0 L m ∧ alL E B H h0 L m) : alL E B H h0 L n := by
  intro dp p b k h hdp hp hb hk hn hr ht d f hd hf
  have hs := sk_le (P := isBl) (T := tp90 h0) hp
  have hsg := sk_ge (P := isBl) (T := tp90 h0) (L := L) (q := p)
  have hmul : H * (n + 1) = H * n + H := Nat.mul_succ H n
  obtain ⟨m, hm⟩ : ∃ m, f = m + 3 := ⟨f - 3, by omega⟩
  obtain ⟨d', hd'⟩ : ∃ d', d = d' + 1 := ⟨d - 1, by omega⟩
  subst hd'
  obtain ⟨y, h1, e1, q1, r1, t1⟩ := x_passes hE hsm hF hL hp hb hr ht (w := 46) (u := uAnd) (by decide) (by decide) d' m (by omega) (by omega)
  rw [hm, xl_9 (q_84 hr) e1]
  by_cases ha : wqs (tp90 h0) L (sk isBl (tp90 h0) L p) uAnd = true
  · rw [if_pos ha] at q1 t1
    subst q1
    rw [ha, Bool.true_or, if_pos rfl]
    have hkk := wqs_K ha
    have hlt := q_ltM (h0 := h0) hkk
    have hke := kE_bb (T := tp90 h0) hs sk_idem hkk
    obtain ⟨n', hn'⟩ : ∃ n', n = n' + 1 := ⟨n - 1, by omega⟩
    obtain ⟨hma, hal⟩ := hps n' hn'
    subst hn'
    have hg := nxt_gt (T := tp90 h0) (L := L) sk_idem hkk
    rw [nx_p] at hg ⊢
    obtain ⟨m2, hm2⟩ : ∃ m2, m = m2 + 3 := ⟨m - 3, by omega⟩
    obtain ⟨x, h2, e2, r2, t2⟩ := hma dp _ _ k h1 hdp hke.2 (by omega) (by omega) (by omega) r1 t1 d' m2 (by omega) (by omega)
    rw [hm2, xl_15y (q_84 r1) e2]
    cases hq : pq (tp90 h0) L n' false dp (sk isBl (tp90 h0) L (kE (tp90 h0) L (sk isBl (tp90 h0) L p))) with
    | inr w =>
      rw [hq] at t2
      obtain ⟨t3, t4⟩ := t2
      subst t3
      rw [pq_tr hq]
      obtain ⟨m3, hm3⟩ : ∃ m3, m2 = m3 + 3 := ⟨m2 - 3, by omega⟩
      rw [hm3, xl_22n]
      exact ⟨0, h2, rfl, r2, Or.inl ⟨w, rfl, rfl, t4⟩⟩
    | inl e =>
      rw [hq] at t2
      obtain ⟨t3, p3, b3, k3, t4, u1, u2, u3, u4, u5⟩ := t2
      subst t3
      have hg2 := (pq_g n' false dp _ e (sk_le hke.2) sk_idem hq).1
      rw [pq_ti hq, ← u3]
      obtain ⟨m3, hm3⟩ : ∃ m3, m2 = m3 + 6 := ⟨m2 - 6, by omega⟩
      obtain ⟨h3, e3, r3, t5⟩ := x_emit hE4 r2 t4 (by omega) (x := 13) (y := 0) ⟨by decide, by decide⟩ d' (m3 + 1) (by omega)
      rw [hm3, xl_22y (q_84 r2) e3]
      exact alQ_up (hal dp p3 b3 (k3 + 1) h3 hdp u1 u2 (by omega) (by omega) r3 t5 (d' + 1) m3 (by omega) (by omega)) (by omega) (by omega) (by omega)
  · rw [if_neg ha] at q1 t1
    subst q1
    have ha := bFls ha
    rw [ha, Bool.false_or]
    obtain ⟨m2, hm2⟩ : ∃ m2, m = m2 + 3 := ⟨m - 3, by omega⟩
    rw [hm2, xl_15n]
    refine ⟨1, h1, rfl, r1, Or.inr ⟨rfl, _, _, k, n, t1, hs, by omega, hsg, by omega, Nat.le_refl _, ?_, ?_, ?_⟩⟩
    · rw [sk_idem]; exact hn
    · rw [sk_idem]; exact ha
    · rw [sk_idem]
set_option maxRecDepth 100000 in
theorem co_s (hE : E.1 < 2147483648) (hE4 : E.1 ≤ 4000) (hsm : bSO E ctb B (60, smT)) (hF : 1000000 ≤ F) (hH : F * 9000 ≤ H) (hL : L ≤ 400) {n : Nat} (hps : ∀ m, n = m + 1 → maP E B H h0 L m ∧ alL E B H h0 L m ∧ ∀ m2, m2 ≤ m → coL E B H h0 L m2) : coL E B H h0 L n := by
  intro dp p b k h hdp hp hb hk hn hna hr ht d f hd hf
  have hs := sk_le (P := isBl) (T := tp90 h0) hp
  have hsg := sk_ge (P := isBl) (T := tp90 h0) (L := L) (q := p)
  have hmul : H * (n + 1) = H * n + H := Nat.mul_succ H n
  obtain ⟨m, hm⟩ : ∃ m, f = m + 3 := ⟨f - 3, by omega⟩
  obtain ⟨d', hd'⟩ : ∃ d', d = d' + 1 := ⟨d - 1, by omega⟩
  subst hd'
  obtain ⟨y, h1, e1, q1, r1, t1⟩ := x_passes hE hsm hF hL hp hb hr ht (w := 47) (u := uOr) (by decide) (by decide) d' m (by omega) (by omega)
  rw [hm, xc_9 (q_84 hr) e1]
  by_cases ha : wqs (tp90 h0) L (sk isBl (tp90 h0) L p) uOr = true
  · rw [if_pos ha] at q1 t1 ⊢
    subst q1
    have hkk := wqs_K ha
    have hlt := q_ltM (h0 := h0) hkk
    have hke := kE_bb (T := tp90 h0) hs sk_idem hkk
    obtain ⟨n', hn'⟩ : ∃ n', n = n' + 1 := ⟨n - 1, by omega⟩
    obtain ⟨hma, hal, hco⟩ := hps n' hn'
    subst hn'
    have hg := nxt_gt (T := tp90 h0) (L := L) sk_idem hkk
    rw [nx_p] at hg ⊢
    obtain ⟨m2, hm2⟩ : ∃ m2, m = m2 + 3 := ⟨m - 3, by omega⟩
    obtain ⟨x, h2, e2, r2, t2⟩ := ao_of hE hE4 hsm hF hL hma hal hdp hke.2 (b := sk isBl (tp90 h0) L p) (k := k) (by omega) (by omega) (by omega) r1 t1 d' m2 (by omega) (by omega)
    rw [hm2, xc_15y (q_84 r1) e2]
    rcases t2 with ⟨w, w1, w2, w3⟩ | ⟨w1, p3, b3, k3, m9, w2, w3, w4, w5, w6, w7, w8, w9, w10⟩
    · subst w2
      rw [w1]
      obtain ⟨m3, hm3⟩ : ∃ m3, m2 = m3 + 3 := ⟨m2 - 3, by omega⟩
      rw [hm3, xc_22n]
      exact ⟨0, h2, rfl, r2, rfl, w3⟩
    · subst w1
      rw [w10]
      obtain ⟨m3, hm3⟩ : ∃ m3, m2 = m3 + 6 := ⟨m2 - 6, by omega⟩
      obtain ⟨h3, e3, r3, t5⟩ := x_emit hE4 r2 w2 (by omega) (x := 14) (y := 0) ⟨by decide, by decide⟩ d' (m3 + 1) (by omega)
      rw [hm3, xc_22y (q_84 r2) e3]
      have hmon : H * (m9 + 1) ≤ H * (n' + 1) := Nat.mul_le_mul_left H (by omega)
      exact moQ_up (hco m9 w7 dp p3 b3 (k3 + 1) h3 hdp w3 w4 (by omega) w8 w9 r3 t5 (d' + 1) m3 (by omega) (by omega)) (by omega) (by omega)
  · rw [if_neg ha] at q1 t1 ⊢
    subst q1
    obtain ⟨m2, hm2⟩ : ∃ m2, m = m2 + 3 := ⟨m - 3, by omega⟩
    rw [hm2, xc_15n]
    exact ⟨1, h1, rfl, r1, rfl, _, _, k, t1, hs, by omega, sk_idem, hsg, by omega⟩
end MC
