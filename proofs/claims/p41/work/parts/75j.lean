/-! noon, compared (wip/zab2/c/lgen51.py) -/
section OT
variable {E : zE} {B : Nat} {h : zH} {L im : Nat}
set_option maxRecDepth 100000 in
theorem op_noon (hE : E.1 ≤ 3072) (hsm : bSO E ctb B (60, smT)) (hX : LX h L im) {iv : Int32} {I : Nat} (hiv : iv.toInt = (I : Int)) (hI6 : I + 6 ≤ E.1) {u5 u6 : Option Value} : ∀ d f, 100 ≤ d → B + 6000000 ≤ f → opS E d iv f h (zex E (f + 100) d 0 1713 (t5K iv u5 u6) [] h) := by
  intro d f hd hf
  obtain ⟨d', hd'⟩ : ∃ d', d = d' + 1 := ⟨d - 1, by omega⟩
  subst hd'
  obtain ⟨hL9, pX, pE⟩ := id hX
  obtain ⟨gI, gP, gT, q4⟩ := id hL9
  obtain ⟨v1, h1, c1, c2, ⟨c3, c4⟩, c5, c6, c7, p1, m1, b1⟩ := hsm 35 [sc34] rfl sc34 (List.Mem.head _) (by decide) [] [.ref 0, .ref 94] h d' (f + 97) (2, 3, 1, 99, 1, 1) rfl (by show 4 ≤ d'; omega) (by omega) ⟨rfl, rfl, trivial⟩ benv_n bcs_n (fun e he => absurd he List.not_mem_nil) gI gP gT
  obtain ⟨x, hx⟩ := bPR_i m1 (by decide) b1
  subst hx
  have c1 : zex E (f + 97) d' 35 0 [some (.ref 0), some (.ref 94), none] [] h = some (.inl (some (.int x)), h1) := c1
  obtain ⟨v2, h2, g1, g2, ⟨g3, g4⟩, g5, g6, g7, p2, m2, b2⟩ := hsm 330 [sc406] rfl sc406 (List.Mem.head _) (by decide) [] [.ref 84] h1 d' (f + 94) (1, 5, 0, 12, 1, 0) rfl (by show 3 ≤ d'; omega) (by omega) ⟨rfl, trivial⟩ benv_n bcs_n (fun e he => absurd he List.not_mem_nil) c2 c3 c4
  obtain ⟨y, hy⟩ := bPR_i m2 (by decide) b2
  subst hy
  have g1 : zex E (f + 94) d' 330 0 [some (.ref 84), none, none, none, none] [] h1 = some (.inl (some (.int y)), h2) := g1
  have c8 : h1.2.2.2.1 ≤ h.2.2.2.1 + 1 := c6
  have c9 : h1.2.2.2.2 ≤ h.2.2.2.2 + 6 := c7
  have g8 : h2.2.2.2.1 ≤ h1.2.2.2.1 + 0 := g6
  have g9 : h2.2.2.2.2 ≤ h1.2.2.2.2 + 0 := g7
  have z1 : (h2.2.1 1 1).toInt = 0 := by rw [g5 1 1 (by decide +kernel)]; exact bPR_z m1 rfl b1
  have z9 : (h2.2.1 84 9).toInt = 0 := bPR_z m2 rfl b2
  have fin : LX h2 0 im := ⟨LI_u g2 g3 g4 (fun k => (g5 2 k (show Nat.testBit sc406.2.1 (bun 2 0) = false by decide +kernel)).trans (c5 2 k (show Nat.testBit sc34.2.1 (bun 2 0) = false by decide +kernel))) (fun k => (g5 90 k (show Nat.testBit sc406.2.1 (bun 90 0) = false by decide +kernel)).trans (c5 90 k (show Nat.testBit sc34.2.1 (bun 90 0) = false by decide +kernel))) z1 z9 ((g5 30 4 (by decide +kernel)).trans (c5 30 4 (by decide +kernel))) ((g5 84 6 (by decide +kernel)).trans (c5 84 6 (by decide +kernel))) hL9, PX_f (FrP_t (FrP_w (by decide +kernel : wF sc34.2.1 lP = true) c5) (FrP_w (by decide +kernel : wF sc406.2.1 lP = true) g5)) (FrA_t (FrA_w (by decide +kernel : wF sc34.2.1 lA = true) c5) (FrA_w (by decide +kernel : wF sc406.2.1 lA = true) g5)) (FrI_t (FrI_w (by decide +kernel : wF sc34.2.1 lI = true) c5) (FrI_w (by decide +kernel : wF sc406.2.1 lI = true) g5)) pX, EX_z g1 g3 (by decide +kernel : wF sc406.2.1 lE = true) (by decide +kernel : wF sc406.2.1 lPa = true) g5 (Q85_w (by decide +kernel : wF sc406.2.1 l85 = true) g5) (EX_z c1 c3 (by decide +kernel : wF sc34.2.1 lE = true) (by decide +kernel : wF sc34.2.1 lPa = true) c5 (Q85_w (by decide +kernel : wF sc34.2.1 l85 = true) c5) pE)⟩
  obtain ⟨σ, hR, hM, hW, h39⟩ := id pX.1
  have fP := FrP_w (by decide +kernel : wF sc34.2.1 lP = true) c5
  have d5 := row_w (by decide +kernel : wF sc34.2.1 lRow = true) c5
  have rnz := RN_of_SX hR hW pE.2.2.1
  have gB : gvB σ := fun p hp => rnz.2.2.2 p hp trivial
  obtain ⟨-, -, -, -, -, r8, -⟩ := id hR
  obtain ⟨⟨l1, l2, l3, l4⟩, lL, lim, t0, t9⟩ := id q4
  have hA : ∀ q, q < 8 → h1.2.1 85 (185 + 24 * q + 0) = h.2.1 20 q := fun q hq => Int32.toInt_inj.mp (by rw [d5 _ (by omega)]; exact ((rnz.1.2 q hq).1 trivial).trans (r8 q hq).symm)
  have hT : ∀ i, (h.2.1 2 i).toInt = ((tp2 h i).toNat : Int) ∧ (tp2 h i).toNat < 256 := fun i => ⟨(Int.toNat_of_nonneg (t0 i).1).symm, by have := t0 i; omega⟩
  have hU : ∀ i, (h1.2.1 90 i).toInt = sg8 ((tp2 h i).toNat : Int) ∧ (tp2 h i).toNat < 256 := fun i => ⟨by
    rw [c5 90 i (show Nat.testBit sc34.2.1 (bun 90 0) = false by decide +kernel), Int.toNat_of_nonneg (t0 i).1]
    exact t9 i, (hT i).2⟩
  have a94 := c4 94 _ kt94 (by intro z; cases z)
  have b94 := g4 94 _ kt94 (by intro z; cases z)
  have lg := (zex_lg E (f + 94) _ _ _ _ _ _ _ _ (by decide) g1).2 94 (ltx94 a94)
  obtain ⟨xc, hc9, k1, k2, k3⟩ := noC (E := E) (T := (fun i => (tp2 h i).toNat)) gT hR hW gB hT l1 lL d' (f + 97) (by omega) (by omega)
  have y1 := (inl_j c1 k1).2
  have y2 := (inl_j c1 k1).1
  have hxe : x = xc := by
    injection y2 with z
    injection z with z
  rw [← y1, ← hxe] at k2
  rw [← hxe] at k3
  obtain ⟨ym, hm9, n1, n2, n3⟩ := noM (E := E) (h := h1) (T := (fun i => (tp2 h i).toNat)) (a := h.2.1 20) c4 (RMf_p hM hW fP.2.2.2.2) hW gB hA hU (L := L) (by rw [c5 84 9 (by decide +kernel)]; exact l2) lL d' (f + 94) (by omega) (by omega)
  have y3 := (inl_j g1 n1).2
  have y4 := (inl_j g1 n1).1
  have hye : y = ym := by
    injection y4 with z
    injection z with z
  rw [← y3] at n2 n3
  rw [← hye] at n2
  have r10 : h.2.1 18 10 = h1.2.1 85 5 := by
    have t := pE.2.2.1.1 0 10 5 (Or.inr (Or.inr (Or.inr (Or.inr (Or.inr ⟨trivial, rfl, rfl, rfl⟩))))) (fun w => absurd w (by decide))
    have t : h.2.1 18 10 = h.2.1 85 5 := t
    rw [t, d5 5 (by decide)]
  by_cases hk : noK (fun i => (tp2 h i).toNat) (sR σ) L
  · obtain ⟨hx0, w, w1, val⟩ := k2 hk
    obtain ⟨w2, u0⟩ := n2 hk
    rw [← r10] at w2
    have hwy := bNs_e w1 w2
    have hv : (lg_cmp (h2.2.2.1 94 0) y.toInt64).toInt = 0 := by
      have h1v : (h2.2.2.1 94 0).toInt = y.toInt := by rw [lg, val, hwy]
      have h2v : (y.toInt64).toInt = y.toInt := by rw [Int32.toInt_toInt64]
      rw [(blg (h2.2.2.1 94 0) y.toInt64).2.1 (by omega) (by omega)]
      decide
    subst hx0
    exact ⟨h2, _, _, f + 77, 0, im, by omega, tp_h0 (E := E) (n := f + 77) (d := d') (i := iv) (y := y) (t := h2.2.1 84 0) (v := h2.2.2.1 94 0) (u5 := u5) (u6 := u6) (by rw [u0]; rfl) rfl hv (c4 84 _ cs84 (by intro z; cases z)) (g4 84 _ cs84 (by intro z; cases z)) b94 c1 g1 (tp_th (n := f + 88) (g4 84 _ cs84 (by intro z; cases z))), fin, by omega, by omega⟩
  · have hx0 := k3 hk
    have v0 := n3 hk
    subst hx0
    exact ⟨h2, _, _, f + 84, 0, im, by omega, tp_h1 (E := E) (n := f + 84) (d := d') (i := iv) (y := y) (t := h2.2.1 84 0) (u5 := u5) (u6 := u6) (by rw [v0]; rfl) (c4 84 _ cs84 (by intro z; cases z)) (g4 84 _ cs84 (by intro z; cases z)) c1 g1 (tp_th (n := f + 88) (g4 84 _ cs84 (by intro z; cases z))), fin, by omega, by omega⟩
end OT
