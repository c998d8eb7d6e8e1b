/-! the model's reader: what its calls leave -/
/-- what the reading of a text of THE LAW writes: point, begin, deep, steps, the draft -/
def wN : Nat := 113071569888956477854451628961704720551451752048582509886237764980752515072
set_option maxRecDepth 100000 in
theorem wN90 : Nat.testBit wN (bun 90 0) = false := by decide +kernel
set_option maxRecDepth 100000 in
theorem wN_f {i : Nat} (h : Nat.testBit wN i = false) : Nat.testBit wM i = false := by
  have e : wM = Nat.land wN wM := by decide +kernel
  rw [e]
  show Nat.testBit (wN &&& wM) i = false
  rw [Nat.testBit_and, h, Bool.false_and]
set_option maxRecDepth 100000 in
theorem wN_90 {h0 h : zH} {a b : Nat} (hr : bRQ ctb wN h0 a b h) : tp90 h = tp90 h0 := tp90_e fun i => hr.2.2.2.1 90 i wN90
set_option maxRecDepth 100000 in
theorem bRQ_MN {h0 h : zH} (hr : bRQ ctb wM h0 0 0 h) : bRQ ctb wN h0 0 0 h := ⟨hr.1, hr.2.1, hr.2.2.1, fun c k z => hr.2.2.2.1 c k (wN_f z), hr.2.2.2.2.1, hr.2.2.2.2.2⟩
/-- end, point, begin, steps, how deep -/
def MT (h : zH) (L p b k dp : Nat) : Prop := (h.2.1 84 11).toInt = (L : Int) ∧ (h.2.1 84 10).toInt = (p : Int) ∧ (h.2.1 84 12).toInt = (b : Int) ∧ (h.2.1 84 16).toInt = (k : Int) ∧ (h.2.1 84 13).toInt = (dp : Int)
set_option maxRecDepth 100000 in
theorem wM16 : Nat.testBit wM (bun 84 16) = false := by decide +kernel
set_option maxRecDepth 100000 in
theorem wM13 : Nat.testBit wM (bun 84 13) = false := by decide +kernel
set_option maxRecDepth 100000 in
theorem mt_m {h h' : zH} {L p b k dp p' b' : Nat} (ht : MT h L p b k dp) (hr : bRQ ctb wM h 0 0 h') (q1 : (h'.2.1 84 11).toInt = (L : Int)) (q2 : (h'.2.1 84 10).toInt = (p' : Int)) (q3 : (h'.2.1 84 12).toInt = (b' : Int)) : MT h' L p' b' k dp :=
  ⟨q1, q2, q3, by rw [hr.2.2.2.1 84 16 wM16]; exact ht.2.2.2.1, by rw [hr.2.2.2.1 84 13 wM13]; exact ht.2.2.2.2⟩
set_option maxRecDepth 100000 in
theorem sqs_m {T : Nat → Int} {L s : Nat} {c : Int} (hc : 33 ≤ c ∧ c ≤ 126) (hd : isDg c = false) (hl : isLt c = false) : (s < L ∧ T s = c) ↔ sqs T L s c = true := by
  rw [sqs_K3]
  unfold kK
  constructor
  · intro ⟨h1, h2⟩
    refine ⟨?_, h2⟩
    rw [if_neg (by omega), h2, hd, hl]
    rfl
  · intro ⟨h1, h2⟩
    refine ⟨?_, h2⟩
    by_cases h3 : L ≤ s
    · rw [if_pos h3] at h1
      cases h1
    · omega
set_option maxRecDepth 100000 in
theorem kE_3 {T : Nat → Int} {L s : Nat} (h : kK T L s = 3) : kE T L s = s + 1 := by
  unfold kE
  rw [if_neg (by omega), if_neg (by omega), if_neg (by omega)]
set_option maxRecDepth 100000 in
theorem wqs_m {U : Nat → Int} {L p : Nat} {u : List Nat} (hu : u ≠ []) (hp : p ≤ L) : txq U (sk isBl U L p) (sk isLt U L (sk isBl U L p)) u = wqs U L (sk isBl U L p) u := wq_m hu hp
set_option maxRecDepth 100000 in
theorem kE_2 {T : Nat → Int} {L s : Nat} (h : kK T L s = 2) : kE T L s = sk isLt T L s := by
  unfold kE
  rw [if_neg (by omega), if_neg (by omega), if_pos h]
set_option maxRecDepth 100000 in
theorem kE_1 {T : Nat → Int} {L s : Nat} (h : kK T L s = 1) : kE T L s = sk isDg T L s := by
  unfold kE
  rw [if_neg (by omega), if_pos h]
set_option maxRecDepth 100000 in
theorem wqs_2 {T : Nat → Int} {L s : Nat} {u : List Nat} (h : wqs T L s u = true) : kK T L s = 2 := by
  unfold wqs at h
  rw [Bool.and_eq_true, decide_eq_true_iff] at h
  exact h.1
set_option maxRecDepth 100000 in
theorem dg_1 {T : Nat → Int} {L s : Nat} : (sk isDg T L s = s ↔ kK T L s ≠ 1) := by
  constructor
  · intro h h1
    have h2 := tkE_gt (T := T) (L := L) (q := s)
    unfold kK at h1
    by_cases h3 : L ≤ s
    · rw [if_pos h3] at h1; cases h1
    · rw [if_neg h3] at h1
      by_cases h4 : isDg (T s) = true
      · rw [sk_s (by omega) h4] at h
        have := sk_ge (P := isDg) (T := T) (L := L) (q := s + 1)
        omega
      · rw [if_neg h4] at h1
        split at h1 <;> cases h1
  · intro h
    refine sk_e fun hl => ?_
    cases h4 : isDg (T s) with
    | false => rfl
    | true => exact absurd (show kK T L s = 1 by unfold kK; rw [if_neg (by omega), if_pos h4]) h
set_option maxRecDepth 100000 in
theorem lt_2 {T : Nat → Int} {L s : Nat} : (sk isLt T L s = s ↔ kK T L s ≠ 2) := by
  constructor
  · intro h h1
    unfold kK at h1
    by_cases h3 : L ≤ s
    · rw [if_pos h3] at h1; cases h1
    · rw [if_neg h3] at h1
      by_cases h4 : isDg (T s) = true
      · rw [if_pos h4] at h1; cases h1
      · rw [if_neg h4] at h1
        by_cases h5 : isLt (T s) = true
        · rw [sk_s (by omega) h5] at h
          have := sk_ge (P := isLt) (T := T) (L := L) (q := s + 1)
          omega
        · rw [if_neg h5] at h1
          cases h1
  · intro h
    refine sk_e fun hl => ?_
    cases h4 : isLt (T s) with
    | false => rfl
    | true =>
      have h5 := isLt_s.mp h4
      have h6 : ¬ isDg (T s) = true := fun z => by have := isDg_s.mp z; omega
      exact absurd (show kK T L s = 2 by unfold kK; rw [if_neg (by omega), if_neg h6, if_pos h4]) h
section MX
variable {E : zE} {B F : Nat} {h0 h : zH} {L p b k dp : Nat}
set_option maxRecDepth 100000 in
theorem x_blanks (hE : E.1 < 2147483648) (hsm : bSO E ctb B (60, smT)) (hF : 1000000 ≤ F) (hL : L ≤ 400) (hp : p ≤ L) (hb : b ≤ 400) (hr : bRQ ctb wN h0 0 0 h) (ht : MT h L p b k dp) :
    ∀ d f, 60 ≤ d → B + F * 401 ≤ f → ∃ h', zex E f d 235 0 [some (.ref 84)] [] h = some (.inl none, h') ∧ bRQ ctb wN h0 0 0 h' ∧ MT h' L (sk isBl (tp90 h0) L p) (sk isBl (tp90 h0) L p) k dp := by
  intro d f hd hf
  obtain ⟨h', e1, k1, k2, k3, k4⟩ := m_blanks (h0 := h) hE hsm hF hL hp hb (bRQ_r hr) ht.1 ht.2.1 ht.2.2.1 d f hd hf
  rw [wN_90 hr] at k3 k4
  exact ⟨h', e1, bRQ_tr hr (bRQ_MN k1), mt_m ht k1 k2 k3 k4⟩
set_option maxRecDepth 100000 in
theorem x_letters (hE : E.1 < 2147483648) (hsm : bSO E ctb B (60, smT)) (hF : 1000000 ≤ F) (hL : L ≤ 400) (hp : p ≤ L) (hb : b ≤ 400) (hr : bRQ ctb wN h0 0 0 h) (ht : MT h L p b k dp) :
    ∀ d f, 61 ≤ d → B + F * 402 ≤ f → ∃ h', zex E f d 236 0 [some (.ref 84)] [] h = some (.inl none, h') ∧ bRQ ctb wN h0 0 0 h' ∧ MT h' L (sk isLt (tp90 h0) L (sk isBl (tp90 h0) L p)) (sk isBl (tp90 h0) L p) k dp := by
  intro d f hd hf
  obtain ⟨h', e1, k1, k2, k3, k4⟩ := m_letters (h0 := h) hE hsm hF hL hp hb (bRQ_r hr) ht.1 ht.2.1 ht.2.2.1 d f hd hf
  rw [wN_90 hr] at k3 k4
  exact ⟨h', e1, bRQ_tr hr (bRQ_MN k1), mt_m ht k1 k2 k3 k4⟩
set_option maxRecDepth 100000 in
theorem x_sign (hE : E.1 < 2147483648) (hsm : bSO E ctb B (60, smT)) (hF : 1000000 ≤ F) (hL : L ≤ 400) (hp : p ≤ L) (hb : b ≤ 400) (hr : bRQ ctb wN h0 0 0 h) (ht : MT h L p b k dp) {c : Int} (hc : 33 ≤ c ∧ c ≤ 126) (hcd : isDg c = false) (hcl : isLt c = false) {x : Int32} (hx : x.toInt = c) :
    ∀ d f, 61 ≤ d → B + F * 402 ≤ f → ∃ (y : Int32) (h' : zH), zex E f d 239 0 [some (.ref 84), some (.int x)] [] h = some (.inl (some (.int y)), h') ∧ y = (if sqs (tp90 h0) L (sk isBl (tp90 h0) L p) c = true then 1 else 0) ∧ bRQ ctb wN h0 0 0 h' ∧ MT h' L (if sqs (tp90 h0) L (sk isBl (tp90 h0) L p) c = true then sk isBl (tp90 h0) L p + 1 else sk isBl (tp90 h0) L p) (sk isBl (tp90 h0) L p) k dp := by
  intro d f hd hf
  obtain ⟨y, h', e1, e2, k1, k2, k3, k4⟩ := m_sign (h0 := h) hE hsm hF hL hp hb (bRQ_r hr) ht.1 ht.2.1 ht.2.2.1 hc hx d f hd hf
  rw [wN_90 hr] at e2 k3 k4
  refine ⟨y, h', e1, Int32.toInt_inj.mp (e2.trans ?_), bRQ_tr hr (bRQ_MN k1), mt_m ht k1 k2 (k3.trans ?_) k4⟩
  · by_cases hq : sqs (tp90 h0) L (sk isBl (tp90 h0) L p) c = true
    · rw [if_pos hq, if_pos ((sqs_m hc hcd hcl).mpr hq)]; rfl
    · rw [if_neg hq, if_neg fun z => hq ((sqs_m hc hcd hcl).mp z)]; rfl
  · by_cases hq : sqs (tp90 h0) L (sk isBl (tp90 h0) L p) c = true
    · rw [if_pos hq, if_pos ((sqs_m hc hcd hcl).mpr hq)]
    · rw [if_neg hq, if_neg fun z => hq ((sqs_m hc hcd hcl).mp z)]
set_option maxRecDepth 100000 in
theorem x_passes (hE : E.1 < 2147483648) (hsm : bSO E ctb B (60, smT)) (hF : 1000000 ≤ F) (hL : L ≤ 400) (hp : p ≤ L) (hb : b ≤ 400) (hr : bRQ ctb wN h0 0 0 h) (ht : MT h L p b k dp) {w : Nat} {u : List Nat} (hw : (w, u) ∈ mws) (hu : u ≠ []) :
    ∀ d f, 62 ≤ d → B + F * 404 ≤ f → ∃ (y : Int32) (h' : zH), zex E f d 238 0 [some (.ref 84), some (.retAddr w)] [] h = some (.inl (some (.int y)), h') ∧ y = (if wqs (tp90 h0) L (sk isBl (tp90 h0) L p) u = true then 1 else 0) ∧ bRQ ctb wN h0 0 0 h' ∧ MT h' L (if wqs (tp90 h0) L (sk isBl (tp90 h0) L p) u = true then kE (tp90 h0) L (sk isBl (tp90 h0) L p) else sk isBl (tp90 h0) L p) (sk isBl (tp90 h0) L p) k dp := by
  intro d f hd hf
  obtain ⟨y, h', e1, e2, k1, k2, k3, k4⟩ := m_passes (h0 := h) hE hsm hF hL hp hb (bRQ_r hr) ht.1 ht.2.1 ht.2.2.1 hw d f hd hf
  rw [wN_90 hr] at e2 k3 k4
  rw [wqs_m hu hp] at e2 k3
  refine ⟨y, h', e1, Int32.toInt_inj.mp (e2.trans ?_), bRQ_tr hr (bRQ_MN k1), mt_m ht k1 k2 (k3.trans ?_) k4⟩
  · split <;> rfl
  · by_cases hq : wqs (tp90 h0) L (sk isBl (tp90 h0) L p) u = true
    · rw [if_pos hq, if_pos hq, kE_2 (wqs_2 hq)]
    · rw [if_neg hq, if_neg hq]
set_option maxRecDepth 100000 in
theorem x_word (hE : E.1 < 2147483648) (hsm : bSO E ctb B (60, smT)) (hL : L ≤ 400) (hp : p ≤ L) (hr : bRQ ctb wN h0 0 0 h) {q : Nat} (hq : q ≤ L) (hpq : p = sk isLt (tp90 h0) L b) (hbq : b = sk isBl (tp90 h0) L q) (ht : MT h L p b k dp) {w : Nat} {u : List Nat} (hw : (w, u) ∈ mws) (hu : u ≠ []) :
    ∀ d f, 60 ≤ d → B + 1000000 ≤ f → ∃ (y : Int32) (h' : zH), zex E f d 237 0 [some (.ref 84), some (.retAddr w), none, none] [] h = some (.inl (some (.int y)), h') ∧ y = (if wqs (tp90 h0) L b u = true then 1 else 0) ∧ bRQ ctb wN h0 0 0 h' ∧ MT h' L p b k dp := by
  intro d f hd hf
  have hb : b ≤ L := by rw [hbq]; exact sk_le hq
  obtain ⟨y, h', e1, e2, e3⟩ := m_isWord hE hsm hr.1 hr.2.1 hr.2.2.1 (by omega) (by omega) ht.2.1 ht.2.2.1 hw d f hd hf
  rw [wN_90 hr] at e2
  have e4 : txq (tp90 h0) b p u = wqs (tp90 h0) L b u := by
    rw [hpq, hbq]
    exact wqs_m hu hq
  rw [e4] at e2
  refine ⟨y, h', e1, Int32.toInt_inj.mp (e2.trans ?_), bRQ_tr hr (bRQ_w0 e3), ?_⟩
  · split <;> rfl
  · unfold MT
    rw [b0_eq e3, b0_eq e3, b0_eq e3, b0_eq e3, b0_eq e3]
    exact ht
set_option maxRecDepth 100000 in
theorem x_figures (hE : E.1 < 2147483648) (hsm : bSO E ctb B (60, smT)) (hF : 1000000 ≤ F) (hL : L ≤ 400) (hp : p ≤ L) (hb : b ≤ 400) (hr : bRQ ctb wN h0 0 0 h) (ht : MT h L p b k dp) :
    ∀ d f, 61 ≤ d → B + F * 404 ≤ f → ∃ (y : Int32) (h' : zH) (p' : Nat), zex E f d 240 0 [some (.ref 84), some (.int 0), some (.int 999), some (.int 3), none] [] h = some (.inl (some (.int y)), h') ∧ (nqs (tp90 h0) L (sk isBl (tp90 h0) L p) 3 = true → 0 ≤ y.toInt ∧ y.toInt ≤ 999 ∧ p' = kE (tp90 h0) L (sk isBl (tp90 h0) L p)) ∧ (nqs (tp90 h0) L (sk isBl (tp90 h0) L p) 3 = false → y.toInt = -1) ∧ p' ≤ L ∧ bRQ ctb wN h0 0 0 h' ∧ MT h' L p' (sk isBl (tp90 h0) L p) k dp := by
  intro d f hd hf
  obtain ⟨y, h', e1, e2, k1, k2, k3, k4⟩ := m_figures (h0 := h) (mo := 3) (lo := 0) (hi := 999) hE hsm hF hL hp hb (bRQ_r hr) ht.1 ht.2.1 ht.2.2.1 ⟨by decide, by decide⟩ ⟨by decide, by decide⟩ ⟨by decide, by decide⟩ (x1 := 0) (x2 := 999) (x3 := 3) rfl rfl rfl d f hd hf
  rw [wN_90 hr] at e2 k3 k4
  have hs := sk_le (P := isBl) (T := tp90 h0) hp
  refine ⟨y, h', sk isDg (tp90 h0) L (sk isBl (tp90 h0) L p), e1, fun hq => ?_, fun hq => ?_, sk_le hs, bRQ_tr hr (bRQ_MN k1), mt_m ht k1 k2 k3 k4⟩
  · unfold nqs at hq
    rw [Bool.and_eq_true, decide_eq_true_iff, decide_eq_true_iff] at hq
    obtain ⟨q1, q2⟩ := hq
    rw [kE_1 q1] at q2
    have h1 : ¬ sk isDg (tp90 h0) L (sk isBl (tp90 h0) L p) = sk isBl (tp90 h0) L p := fun z => dg_1.mp z q1
    have hd : ∀ i, i < sk isDg (tp90 h0) L (sk isBl (tp90 h0) L p) - sk isBl (tp90 h0) L p → 48 ≤ tp90 h0 (sk isBl (tp90 h0) L p + i) ∧ tp90 h0 (sk isBl (tp90 h0) L p + i) ≤ 57 := fun i hi => isDg_s.mp (sk_all L (sk isBl (tp90 h0) L p) (Nat.le_add_left L _) (sk isBl (tp90 h0) L p + i) (by omega) (by omega))
    have hv := vln_3 (T := tp90 h0) hd q2
    rw [show min 3 (sk isDg (tp90 h0) L (sk isBl (tp90 h0) L p) - sk isBl (tp90 h0) L p) = sk isDg (tp90 h0) L (sk isBl (tp90 h0) L p) - sk isBl (tp90 h0) L p by omega] at e2
    unfold fgR at e2
    rw [if_neg h1, if_neg (by omega), if_neg (by omega), if_neg (by omega)] at e2
    rw [e2]
    exact ⟨hv.1, hv.2, (kE_1 q1).symm⟩
  · rw [e2]
    unfold fgR
    by_cases q1 : kK (tp90 h0) L (sk isBl (tp90 h0) L p) = 1
    · have q2 : ¬ sk isDg (tp90 h0) L (sk isBl (tp90 h0) L p) - sk isBl (tp90 h0) L p ≤ 3 := fun z => by
        unfold nqs at hq
        rw [decide_eq_true q1, Bool.true_and, kE_1 q1, decide_eq_true z] at hq
        cases hq
      rw [if_neg fun z => dg_1.mp z q1, if_pos (by omega)]
    · rw [if_pos (dg_1.mpr q1)]
set_option maxRecDepth 100000 in
theorem x_emit (hE4 : E.1 ≤ 4000) (hr : bRQ ctb wN h0 0 0 h) (ht : MT h L p b k dp) (hk : k ≤ 399) {x y : Int32} (hx : -1 ≤ x.toInt ∧ x.toInt ≤ 14) :
    ∀ d f, 29 ≤ f → ∃ h' : zH, zex E f d 255 0 [some (.ref 84), some (.int x), some (.int y)] [] h = some (.inl none, h') ∧ bRQ ctb wN h0 0 0 h' ∧ MT h' L p b (k + 1) dp := by
  intro d f hf
  have h16 := ht.2.2.2.1
  obtain ⟨h', e1, i1, i2, i3, i4, i5, -, -, i6, i7⟩ := zem (E := bgh E 0 fun _ => 0) hr.1 hr.2.1 hr.2.2.1 (y := y) hx (by omega) (by rw [bgh_0 hE4 (by decide)]; omega) d f hf
  rw [← bgh_e] at e1
  refine ⟨h', e1, ⟨i1, i2, by rw [i3]; exact hr.2.2.1, fun c j hc => ?_, by rw [i4]; exact hr.2.2.2.2.1, by rw [i4]; exact hr.2.2.2.2.2⟩, ?_⟩
  · rw [← hr.2.2.2.1 c j hc]
    by_cases h85 : c = 85
    · subst h85
      refine i7 j ?_
      by_cases hj : j < 1675
      · exact hj
      · exfalso
        rw [bun85] at hc
        have hb1 : breg j = 15 := by rw [breg_c, if_neg (by omega), if_neg (by omega), if_neg (by omega), if_neg (by omega)]
        rw [hb1, show Nat.testBit wN (bU85 + 15) = true by decide +kernel] at hc
        cases hc
    · refine i6 c j h85 ?_
      by_cases h84 : c = 84
      · right
        intro hj
        subst h84 hj
        rw [show Nat.testBit wN (bun 84 16) = true by decide +kernel] at hc
        cases hc
      · exact Or.inl h84
  · refine ⟨?_, ?_, ?_, ?_, ?_⟩
    · rw [i6 84 11 (by decide) (Or.inr (by decide))]; exact ht.1
    · rw [i6 84 10 (by decide) (Or.inr (by decide))]; exact ht.2.1
    · rw [i6 84 12 (by decide) (Or.inr (by decide))]; exact ht.2.2.1
    · rw [i5, h16]; omega
    · rw [i6 84 13 (by decide) (Or.inr (by decide))]; exact ht.2.2.2.2
end MX
