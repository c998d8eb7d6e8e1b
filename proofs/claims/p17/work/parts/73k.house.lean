/-! the class's reader of THE HOUSE: copies, the whole of house (wip/zab2/c/geng11.py) -/
set_option maxRecDepth 100000 in
theorem kt0 : bg2 ctb 0 = some (.inr (.inl (11, [some (some 1), some (some 3), some (some 18), some (some 25), some (some 27), some (some 30), some (some 53), some (some 62), some (some 76), none]))) := rfl
set_option maxRecDepth 100000 in
theorem kt1 : bg2 ctb 1 = some (.inr (.inl (9, [some (some 2), none, none, none, none, none]))) := rfl
set_option maxRecDepth 100000 in
theorem kt2 : bg2 ctb 2 = some (.inl (0, 400, [])) := rfl
set_option maxRecDepth 100000 in
theorem kt3 : bg2 ctb 3 = some (.inr (.inl (2, [some (some 4), some (some 10), some (some 17)]))) := rfl
set_option maxRecDepth 100000 in
theorem kt4 : bg2 ctb 4 = some (.inr (.inl (8, [none, none, none, none, some (some 5), some (some 6), some (some 7), some (some 8), some (some 9)]))) := rfl
set_option maxRecDepth 100000 in
theorem kt5 : bg2 ctb 5 = some (.inl (0, 12, [])) := rfl
set_option maxRecDepth 100000 in
theorem kt6 : bg2 ctb 6 = some (.inl (0, 12, [])) := rfl
set_option maxRecDepth 100000 in
theorem kt7 : bg2 ctb 7 = some (.inl (0, 12, [])) := rfl
set_option maxRecDepth 100000 in
theorem kt8 : bg2 ctb 8 = some (.inl (0, 8, [])) := rfl
set_option maxRecDepth 100000 in
theorem kt9 : bg2 ctb 9 = some (.inl (0, 96, [])) := rfl
set_option maxRecDepth 100000 in
theorem kt18 : bg2 ctb 18 = some (.inr (.inl (0, [some (some 19), some (some 20), some (some 21), some (some 22), some (some 23), some (some 24), none, none, none, none, none, none, none]))) := rfl
set_option maxRecDepth 100000 in
theorem kt19 : bg2 ctb 19 = some (.inl (0, 12, [])) := rfl
set_option maxRecDepth 100000 in
theorem kt20 : bg2 ctb 20 = some (.inl (0, 8, [])) := rfl
set_option maxRecDepth 100000 in
theorem kt21 : bg2 ctb 21 = some (.inl (0, 8, [])) := rfl
set_option maxRecDepth 100000 in
theorem kt22 : bg2 ctb 22 = some (.inl (0, 8, [])) := rfl
set_option maxRecDepth 100000 in
theorem kt23 : bg2 ctb 23 = some (.inl (0, 96, [])) := rfl
set_option maxRecDepth 100000 in
theorem kt24 : bg2 ctb 24 = some (.inl (0, 64, [])) := rfl
set_option maxRecDepth 100000 in
theorem kt27 : bg2 ctb 27 = some (.inr (.inl (7, [some (some 28), some (some 29), none, none]))) := rfl
set_option maxRecDepth 100000 in
theorem kt62 : bg2 ctb 62 = some (.inr (.inl (3, [some (some 63), some (some 69), none, none, none, none]))) := rfl
set_option maxRecDepth 100000 in
theorem kt63 : bg2 ctb 63 = some (.inr (.inl (8, [none, none, none, none, some (some 64), some (some 65), some (some 66), some (some 67), some (some 68)]))) := rfl
set_option maxRecDepth 100000 in
theorem kt64 : bg2 ctb 64 = some (.inl (0, 12, [])) := rfl
set_option maxRecDepth 100000 in
theorem kt65 : bg2 ctb 65 = some (.inl (0, 12, [])) := rfl
set_option maxRecDepth 100000 in
theorem kt66 : bg2 ctb 66 = some (.inl (0, 12, [])) := rfl
set_option maxRecDepth 100000 in
theorem kt67 : bg2 ctb 67 = some (.inl (0, 8, [])) := rfl
set_option maxRecDepth 100000 in
theorem kt68 : bg2 ctb 68 = some (.inl (0, 96, [])) := rfl
set_option maxRecDepth 100000 in
theorem kt69 : bg2 ctb 69 = some (.inr (.inl (0, [some (some 70), some (some 71), some (some 72), some (some 73), some (some 74), some (some 75), none, none, none, none, none, none, none]))) := rfl
set_option maxRecDepth 100000 in
theorem kt70 : bg2 ctb 70 = some (.inl (0, 12, [])) := rfl
set_option maxRecDepth 100000 in
theorem kt71 : bg2 ctb 71 = some (.inl (0, 8, [])) := rfl
set_option maxRecDepth 100000 in
theorem kt72 : bg2 ctb 72 = some (.inl (0, 8, [])) := rfl
set_option maxRecDepth 100000 in
theorem kt73 : bg2 ctb 73 = some (.inl (0, 8, [])) := rfl
set_option maxRecDepth 100000 in
theorem kt74 : bg2 ctb 74 = some (.inl (0, 96, [])) := rfl
set_option maxRecDepth 100000 in
theorem kt75 : bg2 ctb 75 = some (.inl (0, 64, [])) := rfl
set_option maxRecDepth 100000 in
theorem kt94 : bg2 ctb 94 = some (.inl (2, 1, [])) := rfl
set_option maxRecDepth 100000 in
theorem biv11Q : biv 1 1 = (0, 400) := rfl
set_option maxRecDepth 100000 in
theorem bHI_fq {h h' : zH} (hI : bHI h) (hc : ∀ c, 85 ≤ c → c ≤ 89 → h'.2.1 c = h.2.1 c) (hh : ∀ c, bhc c = true → h'.2.1 c = h.2.1 c) (hb : ∀ c k, (biv c k).1 ≤ (h'.2.1 c k).toInt ∧ (h'.2.1 c k).toInt ≤ (biv c k).2) : bHI h' := by
  obtain ⟨-, g2, ⟨⟨g3, g4, g5, g6⟩, g7, g8, g9⟩, g10⟩ := hI
  have e85 : h'.2.1 bWc = h.2.1 bWc := hc 85 (by decide) (by decide)
  have f85 : h'.2.1 85 = h.2.1 85 := hc 85 (by decide) (by decide)
  have f86 := hc 86 (by decide) (by decide)
  have f87 := hc 87 (by decide) (by decide)
  have f88 := hc 88 (by decide) (by decide)
  have f89 := hc 89 (by decide) (by decide)
  refine ⟨hb, ?_, ⟨⟨?_, ?_, ?_, ?_⟩, ?_, ?_, ?_⟩, ?_⟩
  · rw [e85]; exact g2
  · rw [f86]; exact g3
  · rw [f87]; exact g4
  · rw [f88]; exact g5
  · rw [f89]; exact g6
  · rw [f85]; exact g7
  · rw [f86]; exact g8
  · rw [f87]; exact g9
  · intro c hz k
    rw [hh c hz]
    exact g10 c hz k
def plA (h : zH) : zH := (cpA (cpA (cpA (cpA (cpA (cpF (cpF (cpF (cpF h 63 4 0) 63 4 1) 63 4 2) 63 4 3) 64 5 12) 65 6 12) 66 7 12) 67 8 8) 68 9 96)
def grA (h : zH) : zH := (cpF (cpF (cpF (cpF (cpF (cpF (cpF (cpA (cpA (cpA (cpA (cpA (cpA h 70 19 12) 71 20 8) 72 21 8) 73 22 8) 74 23 96) 75 24 64) 69 18 6) 69 18 7) 69 18 8) 69 18 9) 69 18 10) 69 18 11) 69 18 12)
def plB (h : zH) : zH := (cpA (cpA (cpA (cpA (cpA (cpF (cpF (cpF (cpF h 4 63 0) 4 63 1) 4 63 2) 4 63 3) 5 64 12) 6 65 12) 7 66 12) 8 67 8) 9 68 96)
def grB (h : zH) : zH := (cpF (cpF (cpF (cpF (cpF (cpF (cpF (cpA (cpA (cpA (cpA (cpA (cpA h 19 70 12) 20 71 8) 21 72 8) 22 73 8) 23 74 96) 24 75 64) 18 69 6) 18 69 7) 18 69 8) 18 69 9) 18 69 10) 18 69 11) 18 69 12)
set_option maxRecDepth 100000 in
theorem cpy_in {f g : Nat → Int32} {N i : Nat} (hi : i < N) : va_cpy f g 0 0 N i = f i := by
  unfold va_cpy
  rw [if_pos ⟨Nat.zero_le _, by omega⟩, Nat.zero_add, Nat.sub_zero]
set_option maxRecDepth 100000 in
theorem cpy_or {f g : Nat → Int32} {N : Nat} (i : Nat) : (∃ j, va_cpy f g 0 0 N i = f j) ∨ va_cpy f g 0 0 N i = g i := by
  unfold va_cpy
  by_cases hi : 0 ≤ i ∧ i < 0 + N
  · rw [if_pos hi]; exact Or.inl ⟨_, rfl⟩
  · rw [if_neg hi]; exact Or.inr rfl
set_option maxRecDepth 100000 in
theorem bRQ_cF {W : Nat} {h0 h : zH} {a b p q k : Nat} (hr : bRQ ctb W h0 a b h) (hW : Nat.testBit W (bun p k) = true) (hb : biv p k = biv q k) (hnx : bnx p = true) (hh : bhc p = false) (h85 : p ≠ 85) (h27 : p ≠ 27) : bRQ ctb W h0 a b (cpF h p q k) :=
  bRQ_set hr hW (by rw [hb]; exact hr.1.1 q k) hnx hh h85 h27
set_option maxRecDepth 100000 in
theorem bRQ_cA {W : Nat} {h0 h : zH} {a b c q N : Nat} (hr : bRQ ctb W h0 a b h) (hW : ∀ k, Nat.testBit W (bun c k) = true) (hb : ∀ k j, biv c k = biv q j) (hc : c < 85) (hh : bhc c = false) (h27 : c ≠ 27) : bRQ ctb W h0 a b (cpA h c q N) := by
  have ne : ∀ d, d ≠ c → (cpA h c q N).2.1 d = h.2.1 d := fun d hd => zs_nc hd
  refine ⟨bHI_fq hr.1 (fun d z1 z2 => ne d (by omega)) (fun d hd => ne d (fun z => by rw [z, hh] at hd; cases hd)) fun d k => ?_, ?_, hr.2.2.1, fun d k hbit => ?_, hr.2.2.2.2.1, hr.2.2.2.2.2⟩
  · by_cases hd : d = c
    · subst hd
      show (biv d k).1 ≤ ((zsetI h d (va_cpy (h.2.1 q) (h.2.1 d) 0 0 N)).2.1 d k).toInt ∧ ((zsetI h d (va_cpy (h.2.1 q) (h.2.1 d) 0 0 N)).2.1 d k).toInt ≤ (biv d k).2
      rw [zs_at]
      rcases cpy_or (f := h.2.1 q) (g := h.2.1 d) (N := N) k with ⟨j, e⟩ | e
      · rw [e, hb k j]; exact hr.1.1 q j
      · rw [e]; exact hr.1.1 d k
    · rw [ne d hd]; exact hr.1.1 d k
  · obtain ⟨r, q1, q2, q3⟩ := hr.2.1
    exact ⟨r, q1, q2, by rw [ne 27 (Ne.symm h27)]; exact q3⟩
  · by_cases hd : d = c
    · subst hd; rw [hW k] at hbit; cases hbit
    · rw [ne d hd]; exact hr.2.2.2.1 d k hbit
set_option maxRecDepth 100000 in
theorem bunW0 : ∀ c, c < 76 → (5 ≤ c ∧ c ≤ 9) ∨ (19 ≤ c ∧ c ≤ 24) ∨ (64 ≤ c ∧ c ≤ 68) ∨ (70 ≤ c ∧ c ≤ 75) → Nat.testBit wX (bun c 0) = true := by decide +kernel
set_option maxRecDepth 100000 in
theorem bunW (c : Nat) (hc : (5 ≤ c ∧ c ≤ 9) ∨ (19 ≤ c ∧ c ≤ 24) ∨ (64 ≤ c ∧ c ≤ 68) ∨ (70 ≤ c ∧ c ≤ 75)) (k : Nat) : Nat.testBit wX (bun c k) = true := by
  have e : bun c k = bun c 0 := by
    have : c = 5 ∨ c = 6 ∨ c = 7 ∨ c = 8 ∨ c = 9 ∨ c = 19 ∨ c = 20 ∨ c = 21 ∨ c = 22 ∨ c = 23 ∨ c = 24 ∨ c = 64 ∨ c = 65 ∨ c = 66 ∨ c = 67 ∨ c = 68 ∨ c = 70 ∨ c = 71 ∨ c = 72 ∨ c = 73 ∨ c = 74 ∨ c = 75 := by omega
    rcases this with rfl | rfl | rfl | rfl | rfl | rfl | rfl | rfl | rfl | rfl | rfl | rfl | rfl | rfl | rfl | rfl | rfl | rfl | rfl | rfl | rfl | rfl <;> rfl
  rw [e]
  exact bunW0 c (by omega) hc
set_option maxRecDepth 100000 in
theorem bvq_4_0 : biv 4 0 = (0, 12) := rfl
set_option maxRecDepth 100000 in
theorem bvq_4_1 : biv 4 1 = (0, 20) := rfl
set_option maxRecDepth 100000 in
theorem bvq_4_2 : biv 4 2 = (0, 8) := rfl
set_option maxRecDepth 100000 in
theorem bvq_4_3 : biv 4 3 = (0, 12) := rfl
set_option maxRecDepth 100000 in
theorem bvq_18_6 : biv 18 6 = (-2147483648, 2147483647) := rfl
set_option maxRecDepth 100000 in
theorem bvq_18_7 : biv 18 7 = (-2147483648, 2147483647) := rfl
set_option maxRecDepth 100000 in
theorem bvq_18_8 : biv 18 8 = (-2147483648, 2147483647) := rfl
set_option maxRecDepth 100000 in
theorem bvq_18_9 : biv 18 9 = (-2147483648, 2147483647) := rfl
set_option maxRecDepth 100000 in
theorem bvq_18_10 : biv 18 10 = (-2147483648, 2147483647) := rfl
set_option maxRecDepth 100000 in
theorem bvq_18_11 : biv 18 11 = (-2147483648, 2147483647) := rfl
set_option maxRecDepth 100000 in
theorem bvq_18_12 : biv 18 12 = (-2147483648, 2147483647) := rfl
set_option maxRecDepth 100000 in
theorem bvq_63_0 : biv 63 0 = (0, 12) := rfl
set_option maxRecDepth 100000 in
theorem bvq_63_1 : biv 63 1 = (0, 20) := rfl
set_option maxRecDepth 100000 in
theorem bvq_63_2 : biv 63 2 = (0, 8) := rfl
set_option maxRecDepth 100000 in
theorem bvq_63_3 : biv 63 3 = (0, 12) := rfl
set_option maxRecDepth 100000 in
theorem bvq_69_6 : biv 69 6 = (-2147483648, 2147483647) := rfl
set_option maxRecDepth 100000 in
theorem bvq_69_7 : biv 69 7 = (-2147483648, 2147483647) := rfl
set_option maxRecDepth 100000 in
theorem bvq_69_8 : biv 69 8 = (-2147483648, 2147483647) := rfl
set_option maxRecDepth 100000 in
theorem bvq_69_9 : biv 69 9 = (-2147483648, 2147483647) := rfl
set_option maxRecDepth 100000 in
theorem bvq_69_10 : biv 69 10 = (-2147483648, 2147483647) := rfl
set_option maxRecDepth 100000 in
theorem bvq_69_11 : biv 69 11 = (-2147483648, 2147483647) := rfl
set_option maxRecDepth 100000 in
theorem bvq_69_12 : biv 69 12 = (-2147483648, 2147483647) := rfl
set_option maxRecDepth 100000 in
theorem bva_5 (k : Nat) : biv 5 k = (0, 4) := rfl
set_option maxRecDepth 100000 in
theorem bva_6 (k : Nat) : biv 6 k = (-2147483648, 2147483647) := rfl
set_option maxRecDepth 100000 in
theorem bva_7 (k : Nat) : biv 7 k = (-2147483648, 2147483647) := rfl
set_option maxRecDepth 100000 in
theorem bva_8 (k : Nat) : biv 8 k = (0, 12) := rfl
set_option maxRecDepth 100000 in
theorem bva_9 (k : Nat) : biv 9 k = (0, 11) := rfl
set_option maxRecDepth 100000 in
theorem bva_19 (k : Nat) : biv 19 k = (0, 100) := rfl
set_option maxRecDepth 100000 in
theorem bva_20 (k : Nat) : biv 20 k = (0, 11) := rfl
set_option maxRecDepth 100000 in
theorem bva_21 (k : Nat) : biv 21 k = (0, 100) := rfl
set_option maxRecDepth 100000 in
theorem bva_22 (k : Nat) : biv 22 k = (0, 99) := rfl
set_option maxRecDepth 100000 in
theorem bva_23 (k : Nat) : biv 23 k = (-2147483648, 2147483647) := rfl
set_option maxRecDepth 100000 in
theorem bva_24 (k : Nat) : biv 24 k = (-2147483648, 2147483647) := rfl
set_option maxRecDepth 100000 in
theorem bva_64 (k : Nat) : biv 64 k = (0, 4) := rfl
set_option maxRecDepth 100000 in
theorem bva_65 (k : Nat) : biv 65 k = (-2147483648, 2147483647) := rfl
set_option maxRecDepth 100000 in
theorem bva_66 (k : Nat) : biv 66 k = (-2147483648, 2147483647) := rfl
set_option maxRecDepth 100000 in
theorem bva_67 (k : Nat) : biv 67 k = (0, 12) := rfl
set_option maxRecDepth 100000 in
theorem bva_68 (k : Nat) : biv 68 k = (0, 11) := rfl
set_option maxRecDepth 100000 in
theorem bva_70 (k : Nat) : biv 70 k = (0, 100) := rfl
set_option maxRecDepth 100000 in
theorem bva_71 (k : Nat) : biv 71 k = (0, 11) := rfl
set_option maxRecDepth 100000 in
theorem bva_72 (k : Nat) : biv 72 k = (0, 100) := rfl
set_option maxRecDepth 100000 in
theorem bva_73 (k : Nat) : biv 73 k = (0, 99) := rfl
set_option maxRecDepth 100000 in
theorem bva_74 (k : Nat) : biv 74 k = (-2147483648, 2147483647) := rfl
set_option maxRecDepth 100000 in
theorem bva_75 (k : Nat) : biv 75 k = (-2147483648, 2147483647) := rfl
set_option maxRecDepth 100000 in
theorem bRQ_plA {h0 h : zH} (hr : bRQ ctb wX h0 0 0 h) : bRQ ctb wX h0 0 0 (plA h) := (bRQ_cA (c := 68) (q := 9) (N := 96) (bRQ_cA (c := 67) (q := 8) (N := 8) (bRQ_cA (c := 66) (q := 7) (N := 12) (bRQ_cA (c := 65) (q := 6) (N := 12) (bRQ_cA (c := 64) (q := 5) (N := 12) (bRQ_cF (p := 63) (q := 4) (k := 3) (bRQ_cF (p := 63) (q := 4) (k := 2) (bRQ_cF (p := 63) (q := 4) (k := 1) (bRQ_cF (p := 63) (q := 4) (k := 0) hr (by decide +kernel) (bvq_63_0.trans bvq_4_0.symm) rfl rfl (by decide) (by decide)) (by decide +kernel) (bvq_63_1.trans bvq_4_1.symm) rfl rfl (by decide) (by decide)) (by decide +kernel) (bvq_63_2.trans bvq_4_2.symm) rfl rfl (by decide) (by decide)) (by decide +kernel) (bvq_63_3.trans bvq_4_3.symm) rfl rfl (by decide) (by decide)) (fun k => (bunW 64 (by decide) k)) (fun k j => (bva_64 k).trans (bva_5 j).symm) (by decide) rfl (by decide)) (fun k => (bunW 65 (by decide) k)) (fun k j => (bva_65 k).trans (bva_6 j).symm) (by decide) rfl (by decide)) (fun k => (bunW 66 (by decide) k)) (fun k j => (bva_66 k).trans (bva_7 j).symm) (by decide) rfl (by decide)) (fun k => (bunW 67 (by decide) k)) (fun k j => (bva_67 k).trans (bva_8 j).symm) (by decide) rfl (by decide)) (fun k => (bunW 68 (by decide) k)) (fun k j => (bva_68 k).trans (bva_9 j).symm) (by decide) rfl (by decide))
set_option maxRecDepth 100000 in
theorem bRQ_grA {h0 h : zH} (hr : bRQ ctb wX h0 0 0 h) : bRQ ctb wX h0 0 0 (grA h) := (bRQ_cF (p := 69) (q := 18) (k := 12) (bRQ_cF (p := 69) (q := 18) (k := 11) (bRQ_cF (p := 69) (q := 18) (k := 10) (bRQ_cF (p := 69) (q := 18) (k := 9) (bRQ_cF (p := 69) (q := 18) (k := 8) (bRQ_cF (p := 69) (q := 18) (k := 7) (bRQ_cF (p := 69) (q := 18) (k := 6) (bRQ_cA (c := 75) (q := 24) (N := 64) (bRQ_cA (c := 74) (q := 23) (N := 96) (bRQ_cA (c := 73) (q := 22) (N := 8) (bRQ_cA (c := 72) (q := 21) (N := 8) (bRQ_cA (c := 71) (q := 20) (N := 8) (bRQ_cA (c := 70) (q := 19) (N := 12) hr (fun k => (bunW 70 (by decide) k)) (fun k j => (bva_70 k).trans (bva_19 j).symm) (by decide) rfl (by decide)) (fun k => (bunW 71 (by decide) k)) (fun k j => (bva_71 k).trans (bva_20 j).symm) (by decide) rfl (by decide)) (fun k => (bunW 72 (by decide) k)) (fun k j => (bva_72 k).trans (bva_21 j).symm) (by decide) rfl (by decide)) (fun k => (bunW 73 (by decide) k)) (fun k j => (bva_73 k).trans (bva_22 j).symm) (by decide) rfl (by decide)) (fun k => (bunW 74 (by decide) k)) (fun k j => (bva_74 k).trans (bva_23 j).symm) (by decide) rfl (by decide)) (fun k => (bunW 75 (by decide) k)) (fun k j => (bva_75 k).trans (bva_24 j).symm) (by decide) rfl (by decide)) (by decide +kernel) (bvq_69_6.trans bvq_18_6.symm) rfl rfl (by decide) (by decide)) (by decide +kernel) (bvq_69_7.trans bvq_18_7.symm) rfl rfl (by decide) (by decide)) (by decide +kernel) (bvq_69_8.trans bvq_18_8.symm) rfl rfl (by decide) (by decide)) (by decide +kernel) (bvq_69_9.trans bvq_18_9.symm) rfl rfl (by decide) (by decide)) (by decide +kernel) (bvq_69_10.trans bvq_18_10.symm) rfl rfl (by decide) (by decide)) (by decide +kernel) (bvq_69_11.trans bvq_18_11.symm) rfl rfl (by decide) (by decide)) (by decide +kernel) (bvq_69_12.trans bvq_18_12.symm) rfl rfl (by decide) (by decide))
set_option maxRecDepth 100000 in
theorem bRQ_plB {h0 h : zH} (hr : bRQ ctb wX h0 0 0 h) : bRQ ctb wX h0 0 0 (plB h) := (bRQ_cA (c := 9) (q := 68) (N := 96) (bRQ_cA (c := 8) (q := 67) (N := 8) (bRQ_cA (c := 7) (q := 66) (N := 12) (bRQ_cA (c := 6) (q := 65) (N := 12) (bRQ_cA (c := 5) (q := 64) (N := 12) (bRQ_cF (p := 4) (q := 63) (k := 3) (bRQ_cF (p := 4) (q := 63) (k := 2) (bRQ_cF (p := 4) (q := 63) (k := 1) (bRQ_cF (p := 4) (q := 63) (k := 0) hr (by decide +kernel) (bvq_4_0.trans bvq_63_0.symm) rfl rfl (by decide) (by decide)) (by decide +kernel) (bvq_4_1.trans bvq_63_1.symm) rfl rfl (by decide) (by decide)) (by decide +kernel) (bvq_4_2.trans bvq_63_2.symm) rfl rfl (by decide) (by decide)) (by decide +kernel) (bvq_4_3.trans bvq_63_3.symm) rfl rfl (by decide) (by decide)) (fun k => (bunW 5 (by decide) k)) (fun k j => (bva_5 k).trans (bva_64 j).symm) (by decide) rfl (by decide)) (fun k => (bunW 6 (by decide) k)) (fun k j => (bva_6 k).trans (bva_65 j).symm) (by decide) rfl (by decide)) (fun k => (bunW 7 (by decide) k)) (fun k j => (bva_7 k).trans (bva_66 j).symm) (by decide) rfl (by decide)) (fun k => (bunW 8 (by decide) k)) (fun k j => (bva_8 k).trans (bva_67 j).symm) (by decide) rfl (by decide)) (fun k => (bunW 9 (by decide) k)) (fun k j => (bva_9 k).trans (bva_68 j).symm) (by decide) rfl (by decide))
set_option maxRecDepth 100000 in
theorem bRQ_grB {h0 h : zH} (hr : bRQ ctb wX h0 0 0 h) : bRQ ctb wX h0 0 0 (grB h) := (bRQ_cF (p := 18) (q := 69) (k := 12) (bRQ_cF (p := 18) (q := 69) (k := 11) (bRQ_cF (p := 18) (q := 69) (k := 10) (bRQ_cF (p := 18) (q := 69) (k := 9) (bRQ_cF (p := 18) (q := 69) (k := 8) (bRQ_cF (p := 18) (q := 69) (k := 7) (bRQ_cF (p := 18) (q := 69) (k := 6) (bRQ_cA (c := 24) (q := 75) (N := 64) (bRQ_cA (c := 23) (q := 74) (N := 96) (bRQ_cA (c := 22) (q := 73) (N := 8) (bRQ_cA (c := 21) (q := 72) (N := 8) (bRQ_cA (c := 20) (q := 71) (N := 8) (bRQ_cA (c := 19) (q := 70) (N := 12) hr (fun k => (bunW 19 (by decide) k)) (fun k j => (bva_19 k).trans (bva_70 j).symm) (by decide) rfl (by decide)) (fun k => (bunW 20 (by decide) k)) (fun k j => (bva_20 k).trans (bva_71 j).symm) (by decide) rfl (by decide)) (fun k => (bunW 21 (by decide) k)) (fun k j => (bva_21 k).trans (bva_72 j).symm) (by decide) rfl (by decide)) (fun k => (bunW 22 (by decide) k)) (fun k j => (bva_22 k).trans (bva_73 j).symm) (by decide) rfl (by decide)) (fun k => (bunW 23 (by decide) k)) (fun k j => (bva_23 k).trans (bva_74 j).symm) (by decide) rfl (by decide)) (fun k => (bunW 24 (by decide) k)) (fun k j => (bva_24 k).trans (bva_75 j).symm) (by decide) rfl (by decide)) (by decide +kernel) (bvq_18_6.trans bvq_69_6.symm) rfl rfl (by decide) (by decide)) (by decide +kernel) (bvq_18_7.trans bvq_69_7.symm) rfl rfl (by decide) (by decide)) (by decide +kernel) (bvq_18_8.trans bvq_69_8.symm) rfl rfl (by decide) (by decide)) (by decide +kernel) (bvq_18_9.trans bvq_69_9.symm) rfl rfl (by decide) (by decide)) (by decide +kernel) (bvq_18_10.trans bvq_69_10.symm) rfl rfl (by decide) (by decide)) (by decide +kernel) (bvq_18_11.trans bvq_69_11.symm) rfl rfl (by decide) (by decide)) (by decide +kernel) (bvq_18_12.trans bvq_69_12.symm) rfl rfl (by decide) (by decide))
set_option maxRecDepth 100000 in
theorem RC_A {h : zH} {σ : hSt} (hR : RC h 4 18 σ) (hW : WF σ) : RC (grA (plA h)) 63 69 σ := by
  obtain ⟨⟨q1, q2, q3⟩, q4, q5, q6, q7, q8, q9, q10⟩ := hR
  obtain ⟨w1, w2, w3, w4, w5, w6⟩ := hW
  refine ⟨⟨q1, q2, q3⟩, fun a ha => ?_, fun q hq => ?_, fun q hq k hk => ?_, fun r hr => ?_, fun q hq => ?_, fun q hq => ?_, fun q hq => ?_⟩
  · show nbR ((grA (plA h)).2.1 66 a) (sdl σ) a
    rw [(show (grA (plA h)).2.1 66 a = h.2.1 7 a from cpy_in (f := h.2.1 7) (N := 12) (by omega))]; exact q4 a ha
  · show ((grA (plA h)).2.1 67 q).toInt = _
    rw [(show (grA (plA h)).2.1 67 q = h.2.1 8 q from cpy_in (f := h.2.1 8) (N := 8) (by omega))]; exact q5 q hq
  · have := w6 q hq
    show ((grA (plA h)).2.1 68 (12 * q + k)).toInt = _
    rw [(show (grA (plA h)).2.1 68 (12 * q + k) = h.2.1 9 (12 * q + k) from cpy_in (f := h.2.1 9) (N := 96) (by omega))]; exact q6 q hq k hk
  · show ((grA (plA h)).2.1 70 r).toInt = _
    rw [(show (grA (plA h)).2.1 70 r = h.2.1 19 r from cpy_in (f := h.2.1 19) (N := 12) (by omega))]; exact q7 r hr
  · show ((grA (plA h)).2.1 71 q).toInt = _
    rw [(show (grA (plA h)).2.1 71 q = h.2.1 20 q from cpy_in (f := h.2.1 20) (N := 8) (by omega))]; exact q8 q hq
  · show ((grA (plA h)).2.1 72 q).toInt = _
    rw [(show (grA (plA h)).2.1 72 q = h.2.1 21 q from cpy_in (f := h.2.1 21) (N := 8) (by omega))]; exact q9 q hq
  · show ((grA (plA h)).2.1 73 q).toInt = _
    rw [(show (grA (plA h)).2.1 73 q = h.2.1 22 q from cpy_in (f := h.2.1 22) (N := 8) (by omega))]; exact q10 q hq
set_option maxRecDepth 100000 in
theorem RC_B {h : zH} {σ : hSt} (hR : RC h 63 69 σ) (hW : WF σ) : RC (grB (plB h)) 4 18 σ := by
  obtain ⟨⟨q1, q2, q3⟩, q4, q5, q6, q7, q8, q9, q10⟩ := hR
  obtain ⟨w1, w2, w3, w4, w5, w6⟩ := hW
  refine ⟨⟨q1, q2, q3⟩, fun a ha => ?_, fun q hq => ?_, fun q hq k hk => ?_, fun r hr => ?_, fun q hq => ?_, fun q hq => ?_, fun q hq => ?_⟩
  · show nbR ((grB (plB h)).2.1 7 a) (sdl σ) a
    rw [(show (grB (plB h)).2.1 7 a = h.2.1 66 a from cpy_in (f := h.2.1 66) (N := 12) (by omega))]; exact q4 a ha
  · show ((grB (plB h)).2.1 8 q).toInt = _
    rw [(show (grB (plB h)).2.1 8 q = h.2.1 67 q from cpy_in (f := h.2.1 67) (N := 8) (by omega))]; exact q5 q hq
  · have := w6 q hq
    show ((grB (plB h)).2.1 9 (12 * q + k)).toInt = _
    rw [(show (grB (plB h)).2.1 9 (12 * q + k) = h.2.1 68 (12 * q + k) from cpy_in (f := h.2.1 68) (N := 96) (by omega))]; exact q6 q hq k hk
  · show ((grB (plB h)).2.1 19 r).toInt = _
    rw [(show (grB (plB h)).2.1 19 r = h.2.1 70 r from cpy_in (f := h.2.1 70) (N := 12) (by omega))]; exact q7 r hr
  · show ((grB (plB h)).2.1 20 q).toInt = _
    rw [(show (grB (plB h)).2.1 20 q = h.2.1 71 q from cpy_in (f := h.2.1 71) (N := 8) (by omega))]; exact q8 q hq
  · show ((grB (plB h)).2.1 21 q).toInt = _
    rw [(show (grB (plB h)).2.1 21 q = h.2.1 72 q from cpy_in (f := h.2.1 72) (N := 8) (by omega))]; exact q9 q hq
  · show ((grB (plB h)).2.1 22 q).toInt = _
    rw [(show (grB (plB h)).2.1 22 q = h.2.1 73 q from cpy_in (f := h.2.1 73) (N := 8) (by omega))]; exact q10 q hq
def w79 : Nat := sc79.2.1
set_option maxRecDepth 100000 in
theorem w79_4 : ∀ k, k < 4 → Nat.testBit w79 (bun 4 k) = false := by decide +kernel
set_option maxRecDepth 100000 in
theorem w79_a : ∀ c, c < 23 → (5 ≤ c ∧ c ≤ 9) ∨ (19 ≤ c ∧ c ≤ 22) → Nat.testBit w79 (bun c 0) = false := by decide +kernel
set_option maxRecDepth 100000 in
theorem w79_c (c : Nat) (hc : (5 ≤ c ∧ c ≤ 9) ∨ (19 ≤ c ∧ c ≤ 22)) (k : Nat) : Nat.testBit w79 (bun c k) = false := by
  have e : bun c k = bun c 0 := by
    have : c = 5 ∨ c = 6 ∨ c = 7 ∨ c = 8 ∨ c = 9 ∨ c = 19 ∨ c = 20 ∨ c = 21 ∨ c = 22 := by omega
    rcases this with rfl | rfl | rfl | rfl | rfl | rfl | rfl | rfl | rfl <;> rfl
  rw [e]
  exact w79_a c (by omega) hc
set_option maxRecDepth 100000 in
theorem RC_79 {h h' : zH} {σ : hSt} (hR : RC h 4 18 σ) (hf : ∀ a k, Nat.testBit w79 (bun a k) = false → h'.2.1 a k = h.2.1 a k) : RC h' 4 18 σ := by
  obtain ⟨⟨q1, q2, q3⟩, q4, q5, q6, q7, q8, q9, q10⟩ := hR
  have f : ∀ c, (5 ≤ c ∧ c ≤ 9) ∨ (19 ≤ c ∧ c ≤ 22) → h'.2.1 c = h.2.1 c := fun c hc => funext fun k => hf c k (w79_c c hc k)
  refine ⟨⟨by rw [hf 4 0 (w79_4 0 (by decide))]; exact q1, by rw [hf 4 1 (w79_4 1 (by decide))]; exact q2, by rw [hf 4 2 (w79_4 2 (by decide))]; exact q3⟩, ?_, ?_, ?_, ?_, ?_, ?_, ?_⟩
  · rw [f 7 (by omega)]; exact q4
  · rw [f 8 (by omega)]; exact q5
  · rw [f 9 (by omega)]; exact q6
  · rw [f 19 (by omega)]; exact q7
  · rw [f 20 (by omega)]; exact q8
  · rw [f 21 (by omega)]; exact q9
  · rw [f 22 (by omega)]; exact q10
section HX
variable {E : zE} {B F : Nat} {h0 : zH} {L : Nat} {σ : hSt}
set_option maxRecDepth 100000 in
theorem hreadE (hE : E.1 < 2147483648) (hsm : bSO E ctb B (60, smT)) (hb9 : ∀ i, 0 ≤ tp2 h0 i ∧ tp2 h0 i ≤ 255) (hF : 1000000 ≤ F) (hL4 : L ≤ 400) (hI : bHI h0) (hP : bPS h0) (hT : bTB ctb h0.1) (p1 : (h0.2.1 1 1).toInt = (L : Int)) (hR : RC h0 4 18 σ) (hW : WF σ) {u4 : Option Value} :
    ∀ d f, 67 ≤ d → B + F * 20000 * 16 ≤ f → hdQ h0 L (houseq (tp2 h0) L σ) (zex E f d 129 0 [some (.ref 62), some (.ref 1), some (.ref 4), some (.ref 18), u4] [] h0) := by
  intro d f hd hf
  obtain ⟨d', hd'⟩ : ∃ d', d = d' + 1 := ⟨d - 1, by omega⟩
  obtain ⟨n, hn⟩ : ∃ n, f = n + 200 + 13 := ⟨f - 213, by omega⟩
  subst hd' hn
  have hr0 : bRQ ctb wX h0 0 0 h0 := ⟨hI, hP, hT, fun _ _ _ => rfl, Nat.le_refl _, Nat.le_refl _⟩
  have g1 := bRQ_plA hr0
  have g2 := bRQ_grA g1
  have g3 := bRQ_62 (j := 2) (y := -1) g2 (by omega)
  have e1 := cpl63 (E := E) (n := n + 152) (d := d') (hT 4 _ kt4 (by intro z; cases z)) (hT 5 _ kt5 (by intro z; cases z)) (hT 6 _ kt6 (by intro z; cases z)) (hT 7 _ kt7 (by intro z; cases z)) (hT 8 _ kt8 (by intro z; cases z)) (hT 9 _ kt9 (by intro z; cases z)) (hT 63 _ kt63 (by intro z; cases z)) (hT 64 _ kt64 (by intro z; cases z)) (hT 65 _ kt65 (by intro z; cases z)) (hT 66 _ kt66 (by intro z; cases z)) (hT 67 _ kt67 (by intro z; cases z)) (hT 68 _ kt68 (by intro z; cases z))
  have e2 := cgr69 (E := E) (n := n + 128) (d := d') (g1.2.2.1 18 _ kt18 (by intro z; cases z)) (g1.2.2.1 19 _ kt19 (by intro z; cases z)) (g1.2.2.1 20 _ kt20 (by intro z; cases z)) (g1.2.2.1 21 _ kt21 (by intro z; cases z)) (g1.2.2.1 22 _ kt22 (by intro z; cases z)) (g1.2.2.1 23 _ kt23 (by intro z; cases z)) (g1.2.2.1 24 _ kt24 (by intro z; cases z)) (g1.2.2.1 69 _ kt69 (by intro z; cases z)) (g1.2.2.1 70 _ kt70 (by intro z; cases z)) (g1.2.2.1 71 _ kt71 (by intro z; cases z)) (g1.2.2.1 72 _ kt72 (by intro z; cases z)) (g1.2.2.1 73 _ kt73 (by intro z; cases z)) (g1.2.2.1 74 _ kt74 (by intro z; cases z)) (g1.2.2.1 75 _ kt75 (by intro z; cases z))
  have hT3 := wX_2 g3
  obtain ⟨h3, e3, b3, t3⟩ := beginE hE hsm (h := zsetI (grA (plA h0)) 62 (upd ((grA (plA h0)).2.1 62) 2 (-1))) (by rw [hT3]; exact hb9) hF hL4 g3.1 g3.2.1 g3.2.2.1 p1 d' (n + 200) (by omega) (by omega)
  rw [hT3] at t3
  have hX : XL h0 L h3 (sk isBl (tp2 h0) L 0) := ⟨bRQ_tr g3 (bRQ_CX b3), t3, sk_le (Nat.zero_le _), sk_idem⟩
  have hR3 : RC h3 63 69 σ := RC_S (RC_S (RC_A hR hW) SM_62) (SM_C b3)
  have key := rd_a (n := n + 200) (d := d') (u4 := u4) (h1 := plA h0) (h2 := grA (plA h0)) (hT 62 _ kt62 (by intro z; cases z)) (hT 63 _ kt63 (by intro z; cases z)) (g1.2.2.1 62 _ kt62 (by intro z; cases z)) (g1.2.2.1 69 _ kt69 (by intro z; cases z)) (g2.2.2.1 1 _ kt1 (by intro z; cases z)) (g2.2.2.1 62 _ kt62 (by intro z; cases z)) e1 e2 e3
  rw [key]
  unfold houseq
  have hkd : (h3.2.1 1 2).toInt = (kK (tp2 h0) L (sk isBl (tp2 h0) L 0) : Int) := hX.2.1.2.1
  by_cases hs : L ≤ sk isBl (tp2 h0) L 0
  · rw [if_pos hs]
    exact ⟨h3, rd_b (n := n + 195) (d := d' + 1) (by rw [hkd, kK_0.mpr hs]; rfl) (ha_1 hX.1), hX.1, hX.2.1.1, hR3, hW⟩
  · rw [if_neg hs, rd_c (n := n + 195) (d := d' + 1) (by
      rw [hkd]
      intro z
      exact hs ((kK_0 (T := tp2 h0)).mp (by omega))) (ha_1 hX.1)]
    exact hreadL hE hsm hb9 hF hL4 14 0 _ h3 σ 0 (by omega) rfl hX hR3 hW (d' + 1) (n + 195) (by omega) (by omega)
/-- what house answers, and what stands then -/
def shQ (h0 : zH) (σ : hSt) (r : hSt ⊕ Nat) (o : Option zR) : Prop := match r with
  | .inr w => ∃ h', o = some (.inr 0, h') ∧ bRQ ctb wX h0 1 6 h' ∧ (h'.2.1 1 1).toInt = 0 ∧ (h'.2.1 0 9).toInt = (w : Int) ∧ RC h' 4 18 σ ∧ h'.2.1 4 3 = h0.2.1 4 3
  | .inl σ' => if 12 ≤ (h0.2.1 4 3).toInt then ∃ h', o = some (.inr 1, h') ∧ bRQ ctb wX h0 1 6 h' ∧ (h'.2.1 1 1).toInt = 0 ∧ (h'.2.1 0 9).toInt = -1 ∧ RC h' 4 18 σ ∧ h'.2.1 4 3 = h0.2.1 4 3
    else ∃ x h', o = some (.inl (some (.int x)), h') ∧ x.toInt = (h0.2.1 4 3).toInt + 1 ∧ bRQ ctb wX h0 0 0 h' ∧ (h'.2.1 1 1).toInt = 0 ∧ (h'.2.1 0 9).toInt = -1 ∧ RC h' 4 18 σ' ∧ WF σ' ∧ h'.2.1 4 3 = x ∧ (h'.2.1 27 2).toInt = 0
set_option maxRecDepth 100000 in
theorem wX11b : Nat.testBit wX (bun 1 1) = true := by decide +kernel
set_option maxRecDepth 100000 in
theorem wX09 : Nat.testBit wX (bun 0 9) = true := by decide +kernel
set_option maxRecDepth 100000 in
theorem wX43 : Nat.testBit wX (bun 4 3) = true := by decide +kernel
set_option maxRecDepth 100000 in
theorem wX272 : Nat.testBit wX (bun 27 2) = true := by decide +kernel
set_option maxRecDepth 100000 in
theorem biv272 : biv 27 2 = (0, 12) := rfl
set_option maxRecDepth 100000 in
theorem bRQ_27 {W : Nat} {h0 h : zH} {a b : Nat} {y : Int32} (hr : bRQ ctb W h0 a b h) (hW : Nat.testBit W (bun 27 2) = true) (hb : (biv 27 2).1 ≤ y.toInt ∧ y.toInt ≤ (biv 27 2).2) : bRQ ctb W h0 a b (zsetI h 27 (upd (h.2.1 27) 2 y)) := by
  refine ⟨bHI_w hr.1 hb rfl rfl (fun z => absurd z (by decide)), bPS_w hr.2.1 (fun _ => rfl), hr.2.2.1, fun d k hbit => ?_, hr.2.2.2.2.1, hr.2.2.2.2.2⟩
  by_cases hd : d = 27
  · subst hd
    rw [zs_at]
    by_cases hk : k = 2
    · subst hk
      rw [hW] at hbit
      cases hbit
    · rw [upd_n hk]
      exact hr.2.2.2.1 27 k hbit
  · rw [zs_ne hd]
    exact hr.2.2.2.1 d k hbit
set_option maxRecDepth 100000 in
theorem biv09 : biv 0 9 = (-2147483648, 2147483647) := rfl
set_option maxRecDepth 100000 in
theorem biv43 : biv 4 3 = (0, 12) := rfl
set_option maxRecDepth 100000 in
theorem shouseE (hE : E.1 < 2147483648) (hsm : bSO E ctb B (60, smT)) (hb9 : ∀ i, 0 ≤ tp2 h0 i ∧ tp2 h0 i ≤ 255) (hF : 1000000 ≤ F) (hL4 : L ≤ 400) (hI : bHI h0) (hP : bPS h0) (hT : bTB ctb h0.1) (p1 : (h0.2.1 1 1).toInt = (L : Int)) (hR : RC h0 4 18 σ) (hW : WF σ) :
    ∀ d f, 68 ≤ d → B + F * 20000 * 17 ≤ f → shQ h0 σ (houseq (tp2 h0) L σ) (zex E f d 41 0 [some (.ref 0)] [] h0) := by
  intro d f hd hf
  obtain ⟨d', hd'⟩ : ∃ d', d = d' + 1 := ⟨d - 1, by omega⟩
  obtain ⟨n, hn⟩ : ∃ n, f = n + 200 := ⟨f - 200, by omega⟩
  subst hd' hn
  have b43 := hI.1 4 3
  obtain ⟨v9, h9, c1, c2, ⟨c3, c4⟩, c5, c6, c7, c8⟩ := hsm 129 [sc79] rfl sc79 (List.Mem.head _) (by decide) [(h0.2.1 4 3).toInt] [.ref 62, .ref 1, .ref 4, .ref 18] h0 d' (n + 189) (4, 5, 0, 3, 1, 0) rfl (by show 5 ≤ d'; omega) (by omega) ⟨rfl, rfl, rfl, rfl, trivial⟩ (benv_c b43.1 b43.2 benv_n) bcs_n (fun q hq => by cases hq with | head => exact (show brel [(h0.2.1 4 3).toInt] (mv 0) (h0.2.1 4 3).toInt from brel_v rfl) | tail _ hq => exact absurd hq List.not_mem_nil) hI hP hT
  have c1 : zex E (n + 189) d' 129 0 [some (.ref 62), some (.ref 1), some (.ref 4), some (.ref 18), none] [] h0 = some (.inl v9, h9) := c1
  have rd := hreadE hE hsm hb9 hF hL4 hI hP hT p1 hR hW (u4 := none) d' (n + 189) (by omega) (by omega)
  have hR9 : RC h9 4 18 σ := RC_79 hR c5
  have t9 : h9.2.1 4 3 = h0.2.1 4 3 := c5 4 3 (w79_4 3 (by decide))
  have hRw : ∀ (x : Int32), RC (zsetI (zsetI h9 0 (upd (h9.2.1 0) 9 x)) 1 (upd ((zsetI h9 0 (upd (h9.2.1 0) 9 x)).2.1 1) 1 0)) 4 18 σ := fun x => hR9
  have brw : ∀ (x : Int32), bRQ ctb wX h0 0 0 h9 → bRQ ctb wX h0 0 0 (zsetI (zsetI h9 0 (upd (h9.2.1 0) 9 x)) 1 (upd ((zsetI h9 0 (upd (h9.2.1 0) 9 x)).2.1 1) 1 0)) := fun x r9 => bRQ_set (bRQ_set r9 wX09 (by rw [biv09]; exact bi32 x) rfl rfl (by decide) (by decide)) wX11b (by rw [biv11Q]; exact ⟨by decide, by decide⟩) rfl rfl (by decide) (by decide)
  have t63 : h9.2.1 63 3 = h0.2.1 4 3 := by
    obtain ⟨p, hp, U, u1, u2, u3, u4⟩ := c8
    have hp : p ∈ [(([((-2147483648), 2147483647)], [], some (.inl (0, [(1, 1)])), [(63, 3, (0, [(0, 1)]))]) : bPo)] := hp
    have hp := List.mem_singleton.mp hp
    subst hp
    have := bpv_x u4 (c := 63) (k := 3) rfl (List.Mem.head _)
    rw [bvx_v] at this
    exact Int32.toInt_inj.mp this
  have hT0 := hT
  cases hh : houseq (tp2 h0) L σ with
  | inr w =>
    rw [hh] at rd
    obtain ⟨x, h1, e1, hx, r1, t1⟩ := rd
    obtain ⟨f1, f2⟩ := inl_j c1 e1
    subst f2
    have g1 := r1
    exact ⟨_, hs_a (n := n + 179) (d := d') (by
      rw [zs_ne (by decide), zs_at, upd_e, hx, intm1]
      omega) (hT 0 _ kt0 (by intro z; cases z)) (hT 3 _ kt3 (by intro z; cases z)) (hT 62 _ kt62 (by intro z; cases z)) (g1.2.2.1 0 _ kt0 (by intro z; cases z)) (g1.2.2.1 1 _ kt1 (by intro z; cases z)) e1, bRQ_x (brw x r1), rfl, (by
      show ((zsetI (zsetI h9 0 (upd (h9.2.1 0) 9 x)) 1 (upd ((zsetI h9 0 (upd (h9.2.1 0) 9 x)).2.1 1) 1 0)).2.1 0 9).toInt = (w : Int)
      rw [zs_ne (by decide), zs_at, upd_e]; exact hx), hRw x, t9⟩
  | inl σ' =>
    rw [hh] at rd
    obtain ⟨h1, e1, r1, t1, hR1, hW1⟩ := rd
    obtain ⟨f1, f2⟩ := inl_j c1 e1
    subst f2
    have g1 := r1
    have kb := hs_b (n := n + 180) (d := d') (x := -1) (by rw [zs_ne (by decide), zs_at, upd_e]) (hT 0 _ kt0 (by intro z; cases z)) (hT 3 _ kt3 (by intro z; cases z)) (hT 62 _ kt62 (by intro z; cases z)) (g1.2.2.1 0 _ kt0 (by intro z; cases z)) (g1.2.2.1 1 _ kt1 (by intro z; cases z)) e1
    have gw := brw (-1) r1
    have t43 : (zsetI (zsetI h9 0 (upd (h9.2.1 0) 9 (-1))) 1 (upd ((zsetI h9 0 (upd (h9.2.1 0) 9 (-1))).2.1 1) 1 0)).2.1 4 3 = h0.2.1 4 3 := t9
    have t09 : ((zsetI (zsetI h9 0 (upd (h9.2.1 0) 9 (-1))) 1 (upd ((zsetI h9 0 (upd (h9.2.1 0) 9 (-1))).2.1 1) 1 0)).2.1 0 9).toInt = -1 := by rw [zs_ne (by decide), zs_at, upd_e]; exact intm1
    have t11 : ((zsetI (zsetI h9 0 (upd (h9.2.1 0) 9 (-1))) 1 (upd ((zsetI h9 0 (upd (h9.2.1 0) 9 (-1))).2.1 1) 1 0)).2.1 1 1).toInt = 0 := by rw [zs_at, upd_e]; exact zi0
    have hR2 : RC (zsetI (zsetI h9 0 (upd (h9.2.1 0) 9 (-1))) 1 (upd ((zsetI h9 0 (upd (h9.2.1 0) 9 (-1))).2.1 1) 1 0)) 63 69 σ' := hR1
    have hRw := hRw (-1)
    have t63w : (zsetI (zsetI h9 0 (upd (h9.2.1 0) 9 (-1))) 1 (upd ((zsetI h9 0 (upd (h9.2.1 0) 9 (-1))).2.1 1) 1 0)).2.1 63 3 = h0.2.1 4 3 := t63
    rw [show n + 200 = n + 180 + 20 from by omega, kb]
    generalize zsetI (zsetI h9 0 (upd (h9.2.1 0) 9 (-1))) 1 (upd ((zsetI h9 0 (upd (h9.2.1 0) 9 (-1))).2.1 1) 1 0) = hw at *
    have hT := gw.2.2.1
    unfold shQ
    dsimp only
    by_cases h12 : 12 ≤ (h0.2.1 4 3).toInt
    · rw [if_pos h12]
      exact ⟨_, hs_c (n := n + 173) (d := d' + 1) (by rw [t43, int12]; exact h12) (hT 0 _ kt0 (by intro z; cases z)) (hT 3 _ kt3 (by intro z; cases z)) (hT 4 _ kt4 (by intro z; cases z)), bRQ_x gw, t11, t09, hRw, t43⟩
    · rw [if_neg h12]
      have q1 := bRQ_plB gw
      have q2 := bRQ_grB q1
      have v43 : (grB (plB hw)).2.1 4 3 = h0.2.1 4 3 := t63w
      have hRB := RC_B hR2 hW1
      have e1 := cpl4 (E := E) (n := n + 110) (d := d') (h := hw) (hT 4 _ kt4 (by intro z; cases z)) (hT 5 _ kt5 (by intro z; cases z)) (hT 6 _ kt6 (by intro z; cases z)) (hT 7 _ kt7 (by intro z; cases z)) (hT 8 _ kt8 (by intro z; cases z)) (hT 9 _ kt9 (by intro z; cases z)) (hT 63 _ kt63 (by intro z; cases z)) (hT 64 _ kt64 (by intro z; cases z)) (hT 65 _ kt65 (by intro z; cases z)) (hT 66 _ kt66 (by intro z; cases z)) (hT 67 _ kt67 (by intro z; cases z)) (hT 68 _ kt68 (by intro z; cases z))
      have e2 := cgr18 (E := E) (n := n + 84) (d := d') (h := plB hw) (q1.2.2.1 18 _ kt18 (by intro z; cases z)) (q1.2.2.1 19 _ kt19 (by intro z; cases z)) (q1.2.2.1 20 _ kt20 (by intro z; cases z)) (q1.2.2.1 21 _ kt21 (by intro z; cases z)) (q1.2.2.1 22 _ kt22 (by intro z; cases z)) (q1.2.2.1 23 _ kt23 (by intro z; cases z)) (q1.2.2.1 24 _ kt24 (by intro z; cases z)) (q1.2.2.1 69 _ kt69 (by intro z; cases z)) (q1.2.2.1 70 _ kt70 (by intro z; cases z)) (q1.2.2.1 71 _ kt71 (by intro z; cases z)) (q1.2.2.1 72 _ kt72 (by intro z; cases z)) (q1.2.2.1 73 _ kt73 (by intro z; cases z)) (q1.2.2.1 74 _ kt74 (by intro z; cases z)) (q1.2.2.1 75 _ kt75 (by intro z; cases z))
      have b43' := hI.1 4 3
      rw [biv43] at b43'
      have b43' : 0 ≤ (h0.2.1 4 3).toInt := b43'.1
      have v44 : ((grB (plB hw)).2.1 4 3 + 1).toInt = (h0.2.1 4 3).toInt + 1 := by rw [v43, i32_add (by rw [int1]; omega) (by rw [int1]; omega), int1]
      have q3 : bRQ ctb wX h0 0 0 (zsetI (grB (plB hw)) 4 (upd ((grB (plB hw)).2.1 4) 3 ((grB (plB hw)).2.1 4 3 + 1))) := bRQ_set q2 wX43 (by rw [v44, biv43]; exact ⟨by show (0 : Int) ≤ _; omega, by show _ ≤ (12 : Int); omega⟩) rfl rfl (by decide) (by decide)
      have e3 := fgt (E := E) (n := n + 146) (d := d') (h := zsetI (grB (plB hw)) 4 (upd ((grB (plB hw)).2.1 4) 3 ((grB (plB hw)).2.1 4 3 + 1))) (q3.2.2.1 27 _ kt27 (by intro z; cases z))
      have q4 : bRQ ctb wX h0 0 0 (zsetI (zsetI (grB (plB hw)) 4 (upd ((grB (plB hw)).2.1 4) 3 ((grB (plB hw)).2.1 4 3 + 1))) 27 (upd ((zsetI (grB (plB hw)) 4 (upd ((grB (plB hw)).2.1 4) 3 ((grB (plB hw)).2.1 4 3 + 1))).2.1 27) 2 0)) := bRQ_27 q3 wX272 (by rw [biv272, zi0]; exact ⟨by decide, by decide⟩)
      have t11' : ((grB (plB hw)).2.1 1 1).toInt = 0 := t11
      have t09' : ((grB (plB hw)).2.1 0 9).toInt = -1 := t09
      refine ⟨_, _, hs_d (n := n + 145) (d := d') (by rw [t43, int12]; omega) (hT 0 _ kt0 (by intro z; cases z)) (hT 3 _ kt3 (by intro z; cases z)) (hT 4 _ kt4 (by intro z; cases z)) (hT 62 _ kt62 (by intro z; cases z)) (q1.2.2.1 0 _ kt0 (by intro z; cases z)) (q1.2.2.1 18 _ kt18 (by intro z; cases z)) (q1.2.2.1 62 _ kt62 (by intro z; cases z)) (q2.2.2.1 0 _ kt0 (by intro z; cases z)) (q2.2.2.1 3 _ kt3 (by intro z; cases z)) (q2.2.2.1 4 _ kt4 (by intro z; cases z)) (q2.2.2.1 27 _ kt27 (by intro z; cases z)) (q4.2.2.1 0 _ kt0 (by intro z; cases z)) (q4.2.2.1 3 _ kt3 (by intro z; cases z)) (q4.2.2.1 4 _ kt4 (by intro z; cases z)) e1 e2 e3, ?_, q4, ?_, ?_, ?_, hW1, rfl, ?_⟩
      · rw [zs_ne (by decide), zs_at, upd_e]; exact v44
      · rw [zs_ne (by decide), zs_ne (by decide)]; exact t11'
      · rw [zs_ne (by decide), zs_ne (by decide)]; exact t09'
      · obtain ⟨⟨z1, z2, z3⟩, z⟩ := hRB
        refine ⟨⟨?_, ?_, ?_⟩, z⟩
        · rw [zs_ne (by decide), zs_at, upd_n (by decide)]; exact z1
        · rw [zs_ne (by decide), zs_at, upd_n (by decide)]; exact z2
        · rw [zs_ne (by decide), zs_at, upd_n (by decide)]; exact z3
      · rw [zs_at, upd_e]; exact zi0
end HX

