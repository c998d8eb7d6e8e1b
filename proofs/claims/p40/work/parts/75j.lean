/-! cross, compared (wip/zab2/c/lgen50.py) -/
section OT
variable {E : zE} {B : Nat} {h : zH} {L im : Nat}
set_option maxRecDepth 100000 in
theorem op_cross (hE : E.1 ≤ 3072) (hsm : bSO E ctb B (60, smT)) (hX : LX h L im) {iv : Int32} {I : Nat} (hiv : iv.toInt = (I : Int)) (hI6 : I + 6 ≤ E.1) {u5 u6 : Option Value} : ∀ d f, 100 ≤ d → B + 6000000 ≤ f → opS E d iv f h (zex E (f + 100) d 0 1673 (t5K iv u5 u6) [] h) := by
  intro d f hd hf
  obtain ⟨d', hd'⟩ : ∃ d', d = d' + 1 := ⟨d - 1, by omega⟩
  subst hd'
  obtain ⟨hL9, pX, pE⟩ := id hX
  obtain ⟨gI, gP, gT, q4⟩ := id hL9
  have w1 := bi32 (E.2 (I + 1))
  have w2 := bi32 (E.2 (I + 2))
  obtain ⟨v1, h1, c1, c2, ⟨c3, c4⟩, c5, c6, c7, p1, m1, b1⟩ := hsm 34 [sc33] rfl sc33 (List.Mem.head _) (by decide) [(E.2 (I + 1)).toInt, (E.2 (I + 2)).toInt] [.ref 0, .int (E.2 (I + 1)), .int (E.2 (I + 2)), .ref 94] h d' (f + 87) (4, 5, 1, 99, 1, 1) rfl (by show 4 ≤ d'; omega) (by omega) ⟨rfl, ⟨_, rfl, brel_v rfl⟩, ⟨_, rfl, brel_v rfl⟩, rfl, trivial⟩ (benv_c w1.1 w1.2 (benv_c w2.1 w2.2 benv_n)) bcs_n (fun e he => absurd he List.not_mem_nil) gI gP gT
  obtain ⟨x, hx⟩ := bPR_i m1 (by decide) b1
  subst hx
  have c1 : zex E (f + 87) d' 34 0 [some (.ref 0), some (.int (E.2 (I + 1))), some (.int (E.2 (I + 2))), some (.ref 94), none] [] h = some (.inl (some (.int x)), h1) := c1
  obtain ⟨v2, h2, g1, g2, ⟨g3, g4⟩, g5, g6, g7, p2, m2, b2⟩ := hsm 328 [sc405] rfl sc405 (List.Mem.head _) (by decide) [(E.2 (I + 1)).toInt, (E.2 (I + 2)).toInt] [.ref 84, .int (E.2 (I + 1)), .int (E.2 (I + 2))] h1 d' (f + 74) (3, 4, 0, 12, 1, 0) rfl (by show 3 ≤ d'; omega) (by omega) ⟨rfl, ⟨_, rfl, brel_v rfl⟩, ⟨_, rfl, brel_v rfl⟩, trivial⟩ (benv_c w1.1 w1.2 (benv_c w2.1 w2.2 benv_n)) bcs_n (fun e he => absurd he List.not_mem_nil) c2 c3 c4
  obtain ⟨y, hy⟩ := bPR_i m2 (by decide) b2
  subst hy
  have g1 : zex E (f + 74) d' 328 0 [some (.ref 84), some (.int (E.2 (I + 1))), some (.int (E.2 (I + 2))), none] [] h1 = some (.inl (some (.int y)), h2) := g1
  have c8 : h1.2.2.2.1 ≤ h.2.2.2.1 + 1 := c6
  have c9 : h1.2.2.2.2 ≤ h.2.2.2.2 + 6 := c7
  have g8 : h2.2.2.2.1 ≤ h1.2.2.2.1 + 0 := g6
  have g9 : h2.2.2.2.2 ≤ h1.2.2.2.2 + 0 := g7
  have fin : LX h2 L im := ⟨LI_f g2 g3 g4 (FrT_t (FrT_w (by decide +kernel : wF sc33.2.1 lT = true) c5) (FrT_w (by decide +kernel : wF sc405.2.1 lT = true) g5)) hL9, PX_f (FrP_t (FrP_w (by decide +kernel : wF sc33.2.1 lP = true) c5) (FrP_w (by decide +kernel : wF sc405.2.1 lP = true) g5)) (FrA_t (FrA_w (by decide +kernel : wF sc33.2.1 lA = true) c5) (FrA_w (by decide +kernel : wF sc405.2.1 lA = true) g5)) (FrI_t (FrI_w (by decide +kernel : wF sc33.2.1 lI = true) c5) (FrI_w (by decide +kernel : wF sc405.2.1 lI = true) g5)) pX, EX_z g1 g3 (by decide +kernel : wF sc405.2.1 lE = true) (by decide +kernel : wF sc405.2.1 lPa = true) g5 (Q85_w (by decide +kernel : wF sc405.2.1 l85 = true) g5) (EX_z c1 c3 (by decide +kernel : wF sc33.2.1 lE = true) (by decide +kernel : wF sc33.2.1 lPa = true) c5 (Q85_w (by decide +kernel : wF sc33.2.1 l85 = true) c5) pE)⟩
  obtain ⟨σ, hR, hM, hW, h39⟩ := id pX.1
  have fP := FrP_w (by decide +kernel : wF sc33.2.1 lP = true) c5
  have d5 := row_w (by decide +kernel : wF sc33.2.1 lRow = true) c5
  have hWp := hW.2.2.1
  have rnz := RN_of_SX hR hW pE.2.2.1
  have gB : gvB σ := fun p hp => rnz.2.2.2 p hp trivial
  have hA0 : ∀ q, q < 8 → (h1.2.1 85 (185 + 24 * q + 0)).toInt = spl σ q := fun q hq => by rw [d5 _ (by omega)]; exact (rnz.1.2 q hq).1 trivial
  have a94 := c4 94 _ kt94 (by intro z; cases z)
  have b94 := g4 94 _ kt94 (by intro z; cases z)
  have lg := (zex_lg E (f + 74) _ _ _ _ _ _ _ _ (by decide) g1).2 94 (ltx94 a94)
  obtain ⟨xc, hc9, k1, k2, k3, k4⟩ := cxC (E := E) gT hR hW gB (a9 := E.2 (I + 1)) (b9 := E.2 (I + 2)) d' (f + 87) (by omega) (by omega)
  have z1 := (inl_j c1 k1).2
  have z2 := (inl_j c1 k1).1
  have hxe : x = xc := by
    injection z2 with z
    injection z with z
  rw [← z1, ← hxe] at k2
  rw [← hxe] at k3 k4
  obtain ⟨ym, hm9, l1, l2, l3, l4⟩ := cxM (E := E) (h := h1) c2 c3 c4 (RMf_p hM hW fP.2.2.2.2) hW gB hA0 (a9 := E.2 (I + 1)) (b9 := E.2 (I + 2)) d' (f + 74) (by omega) (by omega)
  have z3 := (inl_j g1 l1).2
  have z4 := (inl_j g1 l1).1
  have hye : y = ym := by
    injection z4 with z
    injection z with z
  rw [← z3] at l2 l3 l4
  rw [← hye] at l2
  have r10 : h.2.1 18 10 = h1.2.1 85 5 := by
    have t := pE.2.2.1.1 0 10 5 (Or.inr (Or.inr (Or.inr (Or.inr (Or.inr ⟨trivial, rfl, rfl, rfl⟩))))) (fun w => absurd w (by decide))
    have t : h.2.1 18 10 = h.2.1 85 5 := t
    rw [t, d5 5 (by decide)]
  by_cases hcc : (0 ≤ (E.2 (I + 1)).toInt ∧ (E.2 (I + 1)).toInt < (sP σ : Int)) ∧ (0 ≤ (E.2 (I + 2)).toInt ∧ (E.2 (I + 2)).toInt < (sP σ : Int))
  · by_cases hne : (E.2 (I + 1)).toInt ≠ (E.2 (I + 2)).toInt
    · obtain ⟨hx0, val⟩ := k2 hcc hne
      obtain ⟨hy, u0⟩ := l2 hcc hne
      have hv : (lg_cmp (h2.2.2.1 94 0) y.toInt64).toInt = 0 := by
        have h1v : (h2.2.2.1 94 0).toInt = y.toInt := by rw [lg, val, hy, r10]
        have h2v : (y.toInt64).toInt = y.toInt := by rw [Int32.toInt_toInt64]
        rw [(blg (h2.2.2.1 94 0) y.toInt64).2.1 (by omega) (by omega)]
        decide
      subst hx0
      exact ⟨h2, _, _, f + 57, L, im, by omega, tp_h0 (E := E) (n := f + 57) (d := d') (I := I) (i := iv) (y := y) (t := h2.2.1 84 0) (v := h2.2.2.1 94 0) (u5 := u5) (u6 := u6) (fun k hk => baddk hiv (by omega) (by omega)) hI6 (by rw [u0]; rfl) rfl hv (c4 84 _ cs84 (by intro z; cases z)) (g4 84 _ cs84 (by intro z; cases z)) b94 c1 g1 (tp_th (n := f + 68) (g4 84 _ cs84 (by intro z; cases z))), fin, by omega, by omega⟩
    · have hx0 := k4 hcc hne
      have v0 := l4 hcc hne
      subst hx0
      exact ⟨h2, _, _, f + 64, L, im, by omega, tp_h2 (E := E) (n := f + 64) (d := d') (I := I) (i := iv) (y := y) (t := h2.2.1 84 0) (u5 := u5) (u6 := u6) (fun k hk => baddk hiv (by omega) (by omega)) hI6 (by rw [v0]; rfl) (c4 84 _ cs84 (by intro z; cases z)) (g4 84 _ cs84 (by intro z; cases z)) c1 g1 (tp_th (n := f + 68) (g4 84 _ cs84 (by intro z; cases z))), fin, by omega, by omega⟩
  · have hx0 := k3 hcc
    have v0 := l3 hcc
    subst hx0
    exact ⟨h2, _, _, f + 64, L, im, by omega, tp_h1 (E := E) (n := f + 64) (d := d') (I := I) (i := iv) (y := y) (t := h2.2.1 84 0) (u5 := u5) (u6 := u6) (fun k hk => baddk hiv (by omega) (by omega)) hI6 (by rw [v0]; rfl) (c4 84 _ cs84 (by intro z; cases z)) (g4 84 _ cs84 (by intro z; cases z)) c1 g1 (tp_th (n := f + 68) (g4 84 _ cs84 (by intro z; cases z))), fin, by omega, by omega⟩
end OT
