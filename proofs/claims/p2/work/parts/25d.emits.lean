set_option maxRecDepth 100000 in
theorem bHI_w {h : zH} (hI : bHI h) {c jn : Nat} {y : Int32} (hb : (biv c jn).1 ≤ y.toInt ∧ y.toInt ≤ (biv c jn).2) (hnx : bnx c = true) (hh : bhc c = false) (hw : c = 85 → 1626 ≤ jn) : bHI (zsetI h c (upd (h.2.1 c) jn y)) := by
  have hat : ∀ k, (zsetI h c (upd (h.2.1 c) jn y)).2.1 c k = if k = jn then y else h.2.1 c k := by
    intro k
    show zrow h.2.1 c (upd (h.2.1 c) jn y) c k = _
    rw [zrow_at]
    rfl
  have hne : ∀ d, d ≠ c → (zsetI h c (upd (h.2.1 c) jn y)).2.1 d = h.2.1 d := fun d hd => zrow_ne _ _ hd
  refine ⟨?_, ?_, bHX_w hI.1 hI.2.2.1 hnx (fun z => Or.inl (hw z)), ?_⟩
  · intro d k
    by_cases hd : d = c
    · subst hd
      rw [hat]
      by_cases hk : k = jn
      · subst hk
        rw [if_pos rfl]
        exact hb
      · rw [if_neg hk]
        exact hI.1 d k
    · rw [hne d hd]
      exact hI.1 d k
  · show blam ((zsetI h c (upd (h.2.1 c) jn y)).2.1 85)
    by_cases hd : 85 = c
    · have h1 := hw hd.symm
      have h2 : (h.2.1 85 2).toInt ≤ 8 := by
        have := (hI.1 85 2).2
        rw [biv85, bwi2] at this
        exact this
      subst hd
      refine blam_c ?_ (fun k hk => ?_) hI.2.1
      · rw [hat, if_neg (by omega)]
        exact h2
      · rw [hat, if_neg (by omega)]
        rfl
    · rw [hne 85 hd]
      exact hI.2.1
  · intro d hd k
    have hdc : d ≠ c := by
      intro z
      rw [z, hh] at hd
      cases hd
    rw [hne d hdc]
    exact hI.2.2.2 d hd k
set_option maxRecDepth 100000 in
theorem biv84st : biv 84 16 = (0, 400) := rfl
set_option maxRecDepth 100000 in
theorem bwiod : ∀ i : Nat, i < 400 → bwinv (1675 + 2 * i) = (-1, 14) ∧ bwinv (1675 + 2 * i + 1) = (-2147483648, 2147483647) := by decide +kernel
set_option maxRecDepth 100000 in
theorem zsI_ne {h : zH} {c d : Nat} {f : Nat → Int32} (hd : d ≠ c) : (zsetI h c f).2.1 d = h.2.1 d := zrow_ne _ _ hd
set_option maxRecDepth 100000 in
theorem zsI_at {h : zH} {c : Nat} {f : Nat → Int32} : (zsetI h c f).2.1 c = f := zrow_at _ _ _
set_option maxRecDepth 100000 in
theorem zem {E : zE} {h : zH} (hI : bHI h) (hP : bPS h) (hT : bTB ctb h.1) {x y : Int32} (hx : -1 ≤ x.toInt ∧ x.toInt ≤ 14) (hst : (h.2.1 84 16).toInt ≤ 399) (hs0 : (bs0 E : Int) ≤ (h.2.1 84 16).toInt) (d f : Nat) (hf : 29 ≤ f) :
    ∃ h', zex E f d 255 0 [some (.ref 84), some (.int x), some (.int y)] [] h = some (.inl none, h') ∧ bHI h' ∧ bPS h' ∧ h'.1 = h.1 ∧ h'.2.2 = h.2.2 ∧ (h'.2.1 84 16).toInt = (h.2.1 84 16).toInt + 1 ∧ bdv9 E h' = bstp x.toInt (bdv9 E h) ∧ (bokc E h' ↔ bokc E h) ∧
      (∀ a k, a ≠ 85 → (a ≠ 84 ∨ k ≠ 16) → h'.2.1 a k = h.2.1 a k) ∧ ∀ k, k < 1675 → h'.2.1 85 k = h.2.1 85 k := by
  have ha := hT 84 _ cs84 (by intro z; cases z)
  have ht := hT 85 _ cs85 (by intro z; cases z)
  have hb := bst9_b hI
  obtain ⟨s, hs⟩ : ∃ s : Nat, (h.2.1 84 16).toInt = (s : Int) := ⟨(h.2.1 84 16).toInt.toNat, by omega⟩
  have e1 : (1675 + 2 * h.2.1 84 16).toInt = ((1675 + 2 * s : Nat) : Int) := by
    have e2 : (2 * h.2.1 84 16).toInt = 2 * (s : Int) := by
      rw [Int32.toInt_mul, hs, show (2 : Int32).toInt = 2 by decide, bbm (by omega) (by omega)]
    rw [Int32.toInt_add, e2, show (1675 : Int32).toInt = 1675 by decide, bbm (by omega) (by omega)]
    omega
  have e3 : (1675 + 2 * h.2.1 84 16 + 1).toInt = ((1675 + 2 * s + 1 : Nat) : Int) := by
    rw [Int32.toInt_add, e1, show (1 : Int32).toInt = 1 by decide, bbm (by omega) (by omega)]
    omega
  have e4 : (h.2.1 84 16 + 1).toInt = (s : Int) + 1 := by
    rw [Int32.toInt_add, hs, show (1 : Int32).toInt = 1 by decide, bbm (by omega) (by omega)]
  have hz := zemit_all (E := E) (d := d) (v := h.2.1) (rest := h.2.2) (x := x) (y := y) (I := 1675 + 2 * s) (rho := h.2.1 84 16) ha rfl rfl ht (by decide) rfl e1 (by omega) e3 (by omega) (f - 29)
  rw [show f - 29 + 29 = f by omega] at hz
  let h1 := zsetI h 85 (upd (h.2.1 85) (1675 + 2 * s) x)
  let h2 := zsetI h1 85 (upd (h1.2.1 85) (1675 + 2 * s + 1) y)
  let h3 := zsetI h2 84 (upd (h2.2.1 84) 16 (h.2.1 84 16 + 1))
  have hod := bwiod s (by omega)
  have I1 : bHI h1 := bHI_w hI (by rw [biv85, hod.1]; exact hx) rfl rfl (fun _ => by omega)
  have I2 : bHI h2 := bHI_w I1 (by rw [biv85, hod.2]; exact bi32 y) rfl rfl (fun _ => by omega)
  have I3 : bHI h3 := bHI_w I2 (by rw [biv84st]; show 0 ≤ _ ∧ _ ≤ 400; rw [e4]; omega) rfl rfl (fun z => by cases z)
  have v85 : ∀ k, h3.2.1 85 k = if k = 1675 + 2 * s + 1 then y else if k = 1675 + 2 * s then x else h.2.1 85 k := by
    intro k
    have q1 : h3.2.1 85 = h2.2.1 85 := zsI_ne (by decide)
    have q2 : h2.2.1 85 = upd (h1.2.1 85) (1675 + 2 * s + 1) y := zsI_at
    have q3 : h1.2.1 85 = upd (h.2.1 85) (1675 + 2 * s) x := zsI_at
    rw [q1, q2]
    unfold upd
    by_cases hk : k = 1675 + 2 * s + 1
    · rw [if_pos hk, if_pos hk]
    · rw [if_neg hk, if_neg hk, q3]
      rfl
  have v84 : ∀ k, h3.2.1 84 k = if k = 16 then h.2.1 84 16 + 1 else h.2.1 84 k := by
    intro k
    have q1 : h3.2.1 84 = upd (h2.2.1 84) 16 (h.2.1 84 16 + 1) := zsI_at
    have q2 : h2.2.1 84 = h1.2.1 84 := zsI_ne (by decide)
    have q3 : h1.2.1 84 = h.2.1 84 := zsI_ne (by decide)
    rw [q1]
    unfold upd
    by_cases hk : k = 16
    · rw [if_pos hk, if_pos hk]
    · rw [if_neg hk, if_neg hk, q2, q3]
  have vo : ∀ a, a ≠ 84 → a ≠ 85 → h3.2.1 a = h.2.1 a := by
    intro a g1 g2
    have q1 : h3.2.1 a = h2.2.1 a := zsI_ne g1
    have q2 : h2.2.1 a = h1.2.1 a := zsI_ne g2
    have q3 : h1.2.1 a = h.2.1 a := zsI_ne g2
    rw [q1, q2, q3]
  refine ⟨h3, ?_, I3, bps_c rfl ?_ hP, rfl, rfl, ?_, ?_, ?_, ?_, ?_⟩
  · exact hz
  · rw [vo 27 (by decide) (by decide)]
  · rw [v84, if_pos rfl, e4, hs]
  · unfold bdv9 bst9
    rw [v84, if_pos rfl, e4, hs]
    have n1 : ((s : Int) + 1).toNat = s + 1 := by omega
    have n2 : ((s : Int)).toNat = s := by omega
    rw [n1, n2]
    have hle : bs0 E ≤ s := by omega
    rw [if_neg (by omega), if_neg (by omega), show s + 1 - bs0 E = (s - bs0 E) + 1 by omega]
    show bstp (h3.2.1 85 (1675 + 2 * (bs0 E + (s - bs0 E)))).toInt (bdf (h3.2.1 85) (bs0 E) (s - bs0 E)) = _
    rw [show bs0 E + (s - bs0 E) = s by omega, v85, if_neg (by omega), if_pos rfl]
    rw [bdf_e (f := h3.2.1 85) (g := h.2.1 85) fun i hi => by rw [v85, if_neg (by omega), if_neg (by omega)]]
  · have hle : bs0 E ≤ s := by omega
    constructor
    · intro q i hi
      have := q i hi
      rw [v85, if_neg (by omega), if_neg (by omega)] at this
      exact this
    · intro q i hi
      rw [v85, if_neg (by omega), if_neg (by omega)]
      exact q i hi
  · intro a k g1 g2
    by_cases g3 : a = 84
    · subst g3
      rw [v84, if_neg (by rcases g2 with z | z; exact absurd rfl z; exact z)]
    · rw [vo a g3 g1]
  · intro k hk
    rw [v85, if_neg (by omega), if_neg (by omega)]
