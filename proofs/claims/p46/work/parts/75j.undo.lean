/-! p46: undo, compared (wip/zab2/c/lgen42.py) -/
section OU
variable {E : zE} {B : Nat} {h : zH} {L im : Nat}
set_option maxRecDepth 100000 in
theorem op_undo (hE : E.1 ≤ 3072) (hsm : bSO E ctb B (60, smT)) (hX : LX h L im) {iv : Int32} {I : Nat} (hiv : iv.toInt = (I : Int)) (hI6 : I + 6 ≤ E.1) {u5 u6 : Option Value} : ∀ d f, 100 ≤ d → B + 6000000 ≤ f → opS E d iv f h (zex E (f + 100) d 0 1859 (t5K iv u5 u6) [] h) := by
  intro d f hd hf
  obtain ⟨d', hd'⟩ : ∃ d', d = d' + 1 := ⟨d - 1, by omega⟩
  subst hd'
  obtain ⟨hL9, pX, pE⟩ := id hX
  obtain ⟨gI, gP, gT, q4⟩ := id hL9
  obtain ⟨v1, h1, c1, c2, ⟨c3, c4⟩, c5, c6, c7, p1, m1, b1⟩ := hsm 83 [sc42] rfl sc42 (List.Mem.head _) (by decide) [] [.ref 0] h d' (f + 98) (1, 1, 0, 11, 2, 0) rfl (by show 4 ≤ d'; omega) (by omega) ⟨rfl, trivial⟩ benv_n bcs_n (fun e he => absurd he List.not_mem_nil) gI gP gT
  obtain ⟨x, hx⟩ := bPR_i m1 (by decide) b1
  subst hx
  have c1 : zex E (f + 98) d' 83 0 [some (.ref 0)] [] h = some (.inl (some (.int x)), h1) := c1
  obtain ⟨v2, h2, g1, g2, ⟨g3, g4⟩, g5, g6, g7, p2, m2, b2⟩ := hsm 215 [sc235] rfl sc235 (List.Mem.head _) (by decide) [] [.ref 84] h1 d' (f + 96) (1, 2, 0, 12, 2, 0) rfl (by show 0 ≤ d'; omega) (by omega) ⟨rfl, trivial⟩ benv_n bcs_n (fun e he => absurd he List.not_mem_nil) c2 c3 c4
  obtain ⟨y, hy⟩ := bPR_i m2 (by decide) b2
  subst hy
  have g1 : zex E (f + 96) d' 215 0 [some (.ref 84), none] [] h1 = some (.inl (some (.int y)), h2) := g1
  obtain ⟨y9, h9, z1, z2, z3, z4, z5⟩ := undoM (E := E) c2 c4 (u1 := none) d' (f + 96) (by omega)
  have z6 : h2 = h9 := (inl_j g1 z1).2
  subst z6
  have fP := FrP_w (by decide +kernel : wF sc42.2.1 lP = true) c5
  have a1 : AI h1 := AI_f (FrA_w (by decide +kernel : wF sc42.2.1 lA = true) c5) fP.2.2.2.2 pX.2.1
  obtain ⟨r1, r2⟩ := z5 a1
  have c8 : h1.2.2.2.1 ≤ h.2.2.2.1 + 0 := c6
  have c9 : h1.2.2.2.2 ≤ h.2.2.2.2 + 0 := c7
  have g8 : h2.2.2.2.1 ≤ h1.2.2.2.1 + 0 := g6
  have g9 : h2.2.2.2.2 ≤ h1.2.2.2.2 + 0 := g7
  obtain ⟨xe, k2, k3⟩ := rQ_e c1 (undoC (E := E) (by omega) gI gP gT pE.2 d' (f + 98) (by omega) (by omega))
  obtain ⟨ym, hm9, l1, ye, l2⟩ := undoM7 (E := E) (h := h1) c2 c4 (u1 := none) d' (f + 96) (by omega)
  have z7 := (inl_j g1 l1).2
  rw [← z7] at l2
  have x27 : h2.2.1 27 2 = h1.2.1 27 2 := g5 27 2 (by decide +kernel)
  have x84 : h1.2.1 84 7 = h.2.1 84 7 := c5 84 7 (by decide +kernel)
  have yq := (inl_j g1 l1).1
  injection yq with yq
  injection yq with yq
  have hqq : x.toInt = y.toInt := by rw [xe, yq, ye, x84, pE.1]
  have e := tp_eq (E := E) (n := f + 93) (d := d') (i := iv) (u5 := u5) (u6 := u6) hqq (gT 0 _ ks0 (by intro z; cases z)) (c4 84 _ cs84 (by intro z; cases z)) c1 g1
  exact ⟨h2, _, _, f + 93, L, im, by omega, e, ⟨LI_f g2 g3 g4 (FrT_t (FrT_w (by decide +kernel : wF sc42.2.1 lT = true) c5) (FrT_w (by decide +kernel : wF sc235.2.1 lT = true) g5)) hL9, PX_a (FrP_t fP (FrP_C (FrC_w (by decide +kernel : wF sc235.2.1 lC = true) g5) r1)) (fun _ => r2) (FrI_t (FrI_w (by decide +kernel : wF sc42.2.1 lI = true) c5) (FrI_w (by decide +kernel : wF sc235.2.1 lI = true) g5)) pX, ⟨Int32.toInt_inj.mp (by rw [x27, k2, l2, x84, pE.1]), paQ_f g1 g3 x27 (g5 27 3 (by decide +kernel)) k3⟩⟩, by omega, by omega⟩
end OU
