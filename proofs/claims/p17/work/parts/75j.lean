/-! a number told, compared (wip/zab2/c/lgen48.py) -/
section OT
variable {E : zE} {B : Nat} {h : zH} {L im : Nat}
set_option maxRecDepth 100000 in
theorem op_keep (hE : E.1 ≤ 3072) (hsm : bSO E ctb B (60, smT)) (hX : LX h L im) {iv : Int32} {I : Nat} (hiv : iv.toInt = (I : Int)) (hI6 : I + 6 ≤ E.1) {u5 u6 : Option Value} : ∀ d f, 100 ≤ d → B + 6000000 ≤ f → opS E d iv f h (zex E (f + 100) d 0 767 (t5K iv u5 u6) [] h) := by
  intro d f hd hf
  obtain ⟨d', hd'⟩ : ∃ d', d = d' + 1 := ⟨d - 1, by omega⟩
  subst hd'
  obtain ⟨hL9, pX, pE⟩ := id hX
  obtain ⟨gI, gP, gT, q4⟩ := id hL9
  have w1 := bi32 (E.2 (I + 1))
  have w2 := bi32 (E.2 (I + 2))
  obtain ⟨v1, h1, c1, c2, ⟨c3, c4⟩, c5, c6, c7, p1, m1, b1⟩ := hsm 13 [sc12] rfl sc12 (List.Mem.head _) (by decide) [(E.2 (I + 1)).toInt, (E.2 (I + 2)).toInt] [.ref 0, .int (E.2 (I + 1)), .int (E.2 (I + 2)), .ref 94] h d' (f + 87) (4, 5, 1, 99, 1, 1) rfl (by show 5 ≤ d'; omega) (by omega) ⟨rfl, ⟨_, rfl, brel_v rfl⟩, ⟨_, rfl, brel_v rfl⟩, rfl, trivial⟩ (benv_c w1.1 w1.2 (benv_c w2.1 w2.2 benv_n)) bcs_n (fun e he => absurd he List.not_mem_nil) gI gP gT
  obtain ⟨x, hx⟩ := bPR_i m1 (by decide) b1
  subst hx
  have c1 : zex E (f + 87) d' 13 0 [some (.ref 0), some (.int (E.2 (I + 1))), some (.int (E.2 (I + 2))), some (.ref 94), none] [] h = some (.inl (some (.int x)), h1) := c1
  obtain ⟨v2, h2, g1, g2, ⟨g3, g4⟩, g5, g6, g7, p2, m2, b2⟩ := hsm 291 [sc371] rfl sc371 (List.Mem.head _) (by decide) [(E.2 (I + 1)).toInt, (E.2 (I + 2)).toInt] [.ref 84, .int (E.2 (I + 1)), .int (E.2 (I + 2))] h1 d' (f + 74) (3, 3, 0, 12, 1, 0) rfl (by show 2 ≤ d'; omega) (by omega) ⟨rfl, ⟨_, rfl, brel_v rfl⟩, ⟨_, rfl, brel_v rfl⟩, trivial⟩ (benv_c w1.1 w1.2 (benv_c w2.1 w2.2 benv_n)) bcs_n (fun e he => absurd he List.not_mem_nil) c2 c3 c4
  obtain ⟨y, hy⟩ := bPR_i m2 (by decide) b2
  subst hy
  have g1 : zex E (f + 74) d' 291 0 [some (.ref 84), some (.int (E.2 (I + 1))), some (.int (E.2 (I + 2)))] [] h1 = some (.inl (some (.int y)), h2) := g1
  obtain ⟨y9, h9, z1, z2⟩ := acKe (E := E) (by omega) hsm c2 c3 c4 d' (f + 74) (by omega) (by omega)
  have z4 : h2 = h9 := (inl_j g1 z1).2
  have fP := FrP_w (by decide +kernel : wF sc12.2.1 lP = true) c5
  have c8 : h1.2.2.2.1 ≤ h.2.2.2.1 + 9 := c6
  have c9 : h1.2.2.2.2 ≤ h.2.2.2.2 + 1200 := c7
  have g8 : h2.2.2.2.1 ≤ h1.2.2.2.1 + 0 := g6
  have g9 : h2.2.2.2.2 ≤ h1.2.2.2.2 + 0 := g7
  obtain ⟨σ, hR, hM, hW, h39⟩ := id pX.1
  obtain ⟨xc, hc9, k1, k2, k3⟩ := caKe (E := E) (by omega) hsm gI gP gT pE.2.1 hR hW (k9 := E.2 (I + 1)) (x9 := E.2 (I + 2)) d' (f + 87) (by omega) (by omega)
  have z5 := (inl_j c1 k1).2
  rw [← z5] at k2 k3
  obtain ⟨ym, hm9, l1, l2⟩ := maKe (E := E) (h := h1) (by omega) hsm c2 c3 c4 (RMf_p hM hW fP.2.2.2.2) hW (k9 := E.2 (I + 1)) (x9 := E.2 (I + 2)) d' (f + 74) (by omega) (by omega)
  have z7 := (inl_j g1 l1).2
  rw [← z7] at l2
  have x27 : h2.2.1 27 2 = h1.2.1 27 2 := g5 27 2 (by decide +kernel)
  have x84 : h1.2.1 84 7 = h.2.1 84 7 := c5 84 7 (by decide +kernel)
  have d5 := row_w (by decide +kernel : wF sc12.2.1 lRow = true) c5
  have b27 := gI.1 27 2
  rw [biv272] at b27
  have b27a : 0 ≤ (h.2.1 27 2).toInt := b27.1
  have b27b : (h.2.1 27 2).toInt ≤ 12 := b27.2
  have E1 : h2.2.1 4 0 = h.2.1 4 0 := (g5 4 0 (by decide +kernel)).trans (c5 4 0 (by decide +kernel))
  have E2 : h2.2.1 4 2 = h.2.1 4 2 := (g5 4 2 (by decide +kernel)).trans (c5 4 2 (by decide +kernel))
  have E3 : ∀ k : Nat, k < 8 → (k : Int) < (h.2.1 4 2).toInt → h2.2.1 8 k = h.2.1 8 k := fun k _ _ => (g5 8 k (show Nat.testBit sc371.2.1 (bun 8 0) = false by decide +kernel)).trans (c5 8 k (show Nat.testBit sc12.2.1 (bun 8 0) = false by decide +kernel))
  have hWr := hW.1
  have hWp := hW.2.2.1
  have rsg : RS9 h1 h2 := RS9_w (by decide +kernel : wF sc371.2.1 lPa = true) (g5 27 3 (by decide +kernel)) g5
  obtain ⟨xb, hb9, bq1, bc, bn⟩ := cbKe (E := E) (by omega) hsm gI gP gT pE.2.1 hR hW (k9 := E.2 (I + 1)) (x9 := E.2 (I + 2)) d' (f + 87) (by omega) (by omega)
  have z51 := (inl_j c1 bq1).2
  rw [← z51] at bc bn
  obtain ⟨yb, hm8, mq1, mc, mn⟩ := mbKe (E := E) (h := h1) (by omega) hsm c2 c3 c4 (RMf_p hM hW fP.2.2.2.2) hW (k9 := E.2 (I + 1)) (x9 := E.2 (I + 2)) d' (f + 74) (by omega) (by omega)
  have z52 := (inl_j g1 mq1).2
  rw [← z52] at mc mn
  have d9 : ∀ k, h1.2.1 89 k = h.2.1 89 k := fun k => c5 89 k (show Nat.testBit sc12.2.1 (bun 89 0) = false by decide +kernel)
  have s7 : (h1.2.1 84 7).toInt = (h.2.1 27 2).toInt := by rw [x84, pE.1]
  have qp2 : QP h2 := by
    by_cases hcc : (0 ≤ (E.2 (I + 1)).toInt ∧ (E.2 (I + 1)).toInt < (sP σ : Int)) ∧ (0 ≤ (E.2 (I + 2)).toInt ∧ (E.2 (I + 2)).toInt ≤ 100)
    · obtain ⟨n9, hn9, hn12, rx1, rx2, rx3⟩ := bc hcc
      have mz := mc hcc
      exact QP_act hn9 hn12 ⟨b27a, b27b⟩ E1 E2 E3 (by rw [x27, k2, if_pos hcc]; rfl) (by rw [g5 27 3 (by decide +kernel)]; exact rx1) (fun c k q => (rsg.1 _ (by omega) (by have c6 := gq6 q; omega) k).trans (rx2 c k q)) (fun r hr hrn c hc k => (rsg.1 _ (by omega) (by omega) k).trans (rx3 r hr hrn c hc k)) (fun z => ⟨fun b k hb hk => ((mz.1 (by rw [s7]; exact z)).1 b k hb hk).trans (d9 _), fun k hk => ((mz.1 (by rw [s7]; exact z)).2 k hk).trans (d5 k hk)⟩) (fun s z h12 => ⟨fun b k hb hk => ((mz.2 s (by rw [s7]; exact z) h12).1 b k hb hk).trans (d9 _), fun k hk => ((mz.2 s (by rw [s7]; exact z) h12).2 k hk).trans (d5 k hk)⟩) pE.2.2.1 pE.2.2.2.2
    · have bn9 := bn hcc
      have mn9 := mn hcc
      exact QP_f E1 E2 E3 (by rw [x27, bn9]) (by rw [g5 27 3 (by decide +kernel), bn9]) (fun r hr c hc k => (rsg.1 _ (by omega) (by omega) k).trans (by rw [bn9])) (fun k => (mn9 k).trans (d9 k)) pE.2.2.2.2
  obtain ⟨xt, ht9, tq1, tc, tn⟩ := ctKe (E := E) (by omega) hsm gI gP gT pE.2.1 hR hW (k9 := E.2 (I + 1)) (x9 := E.2 (I + 2)) d' (f + 87) (by omega) (by omega)
  have z61 := (inl_j c1 tq1).2
  have z62 := (inl_j c1 tq1).1
  rw [← z61] at tc tn
  obtain ⟨yt, hu9, uq1, uc, vn⟩ := mtKe (E := E) (h := h1) (by omega) hsm c2 c3 c4 (RMf_p hM hW fP.2.2.2.2) hW (k9 := E.2 (I + 1)) (x9 := E.2 (I + 2)) d' (f + 74) (by omega) (by omega)
  have z63 := (inl_j g1 uq1).2
  have z64 := (inl_j g1 uq1).1
  rw [← z63] at uc vn
  have g5x : ∀ c k m, qk c k m → h2.2.1 (18 + c) k = h1.2.1 (18 + c) k := qn_f (by decide +kernel : wF sc371.2.1 lNq = true) g5
  have sx2 : SX h2 4 18 85 0 := by
    by_cases hcc : (0 ≤ (E.2 (I + 1)).toInt ∧ (E.2 (I + 1)).toInt < (sP σ : Int)) ∧ (0 ≤ (E.2 (I + 2)).toInt ∧ (E.2 (I + 2)).toInt ≤ 100)
    · obtain ⟨tx, tl, tv⟩ := tc hcc
      obtain ⟨ux, u0, uv⟩ := uc hcc
      refine SX_told (c0 := 3) (K := (E.2 (I + 1)).toInt.toNat) (M := (185 + 24 * (E.2 (I + 1)).toInt.toNat + 1)) (v := E.2 (I + 2)) E1 E2 E3 ?_ (fun k => (g5 21 k (show Nat.testBit sc371.2.1 (bun 21 0) = false by decide +kernel)).trans (tv k)) (fun k m q => (uv m).trans (upd_d (fun k hk => d5 k hk) (qk_g q).2.1)) ?_ (Or.inr (Or.inl rfl)) pE.2.2.1
      · intro k m q
        have := qk_m q
        omega
      · intro c k m q hc
        rcases q with ⟨z, h1, h2, h3⟩ | ⟨z, h1, h2, h3⟩ | ⟨z, h1, h2, h3⟩ | ⟨z, h1, h2, h3⟩ | ⟨z, h1, h2, h3⟩ | ⟨z, h1, h2, h3⟩
        · exact (show False from z).elim
        · exact (show False from z).elim
        · exact absurd h1 hc
        · exact (show False from z).elim
        · exact (show False from z).elim
        · exact (show False from z).elim
    · have tn9 := (tn hcc).2
      have vn9 := (vn hcc).2
      exact SX_f E1 E2 E3 (fun c k m q => (g5x c k m q).trans (by rw [tn9])) (fun c k m q => by rw [Nat.zero_add]; exact (vn9 m).trans (d5 m (qk_g q).2.1)) pE.2.2.1
  have qx2 : QX h2 := ⟨sx2, QI_w (by decide +kernel : wF sc371.2.1 lQI = true) g5 (QI_w (by decide +kernel : wF sc12.2.1 lQI = true) c5 pE.2.2.2.1), qp2⟩
  have fin : LX h2 L im := ⟨LI_f g2 g3 g4 (FrT_t (FrT_w (by decide +kernel : wF sc12.2.1 lT = true) c5) (FrT_w (by decide +kernel : wF sc371.2.1 lT = true) g5)) hL9, PX_a (FrP_t fP (FrP_w (by decide +kernel : wF sc371.2.1 lP = true) g5)) (fun a => by rw [z4]; exact z2 (AI_f (FrA_w (by decide +kernel : wF sc12.2.1 lA = true) c5) fP.2.2.2.2 a)) (FrI_t (FrI_w (by decide +kernel : wF sc12.2.1 lI = true) c5) (FrI_w (by decide +kernel : wF sc371.2.1 lI = true) g5)) pX, ⟨Int32.toInt_inj.mp (by rw [x27, k2, l2, x84, pE.1]), paQ_f g1 g3 x27 (g5 27 3 (by decide +kernel)) k3, qx2⟩⟩
  have hWr := hW.1
  have hWp := hW.2.2.1
  have a94 := c4 94 _ kt94 (by intro z; cases z)
  have b94 := g4 94 _ kt94 (by intro z; cases z)
  have lg := (zex_lg E (f + 74) _ _ _ _ _ _ _ _ (by decide) g1).2 94 (ltx94 a94)
  by_cases hcc : (0 ≤ (E.2 (I + 1)).toInt ∧ (E.2 (I + 1)).toInt < (sP σ : Int)) ∧ (0 ≤ (E.2 (I + 2)).toInt ∧ (E.2 (I + 2)).toInt ≤ 100)
  · obtain ⟨tx, tl, tv⟩ := tc hcc
    obtain ⟨ux, u0, uv⟩ := uc hcc
    have hx0 : x = 0 := by
      injection z62 with z
      injection z with z
      rw [z]; exact tx
    have hy : y = h1.2.1 85 (185 + 24 * (E.2 (I + 1)).toInt.toNat + 1) := by
      injection z64 with z
      injection z with z
      rw [z]; exact ux
    have val : (h1.2.2.1 94 0).toInt = y.toInt := by
      have s := pE.2.2.1.1 3 (E.2 (I + 1)).toInt.toNat (185 + 24 * (E.2 (I + 1)).toInt.toNat + 1) (Or.inr (Or.inr (Or.inl ⟨trivial, rfl, by omega, by omega⟩))) (fun _ => by rw [hR.1.2.2]; omega)
      rw [Nat.zero_add] at s
      rw [tl, hy, d5 _ (by omega)]
      exact congrArg Int32.toInt s
    have hv : (lg_cmp (h2.2.2.1 94 0) y.toInt64).toInt = 0 := by
      have h1v : (h2.2.2.1 94 0).toInt = y.toInt := by rw [lg]; exact val
      have h2v : (y.toInt64).toInt = y.toInt := by rw [Int32.toInt_toInt64]
      rw [(blg (h2.2.2.1 94 0) y.toInt64).2.1 (by omega) (by omega)]
      decide
    subst hx0
    exact ⟨h2, _, _, f + 57, L, im, by omega, tp_h0 (E := E) (n := f + 57) (d := d') (I := I) (i := iv) (y := y) (t := h2.2.1 84 0) (v := h2.2.2.1 94 0) (u5 := u5) (u6 := u6) (fun k hk => baddk hiv (by omega) (by omega)) hI6 (by rw [u0]; rfl) rfl hv (c4 84 _ cs84 (by intro z; cases z)) (g4 84 _ cs84 (by intro z; cases z)) b94 c1 g1 (tp_th (n := f + 68) (g4 84 _ cs84 (by intro z; cases z))), fin, by omega, by omega⟩
  · have tx := (tn hcc).1
    have v0 := (vn hcc).1
    have hxe : x = xt := by
      injection z62 with z
      injection z with z
    by_cases hA : 0 ≤ (E.2 (I + 1)).toInt ∧ (E.2 (I + 1)).toInt < (sP σ : Int)
    · rw [if_pos hA] at tx v0
      have hx0 : x = 2 := hxe.trans tx
      subst hx0
      exact ⟨h2, _, _, f + 64, L, im, by omega, tp_h2 (E := E) (n := f + 64) (d := d') (I := I) (i := iv) (y := y) (t := h2.2.1 84 0) (u5 := u5) (u6 := u6) (fun k hk => baddk hiv (by omega) (by omega)) hI6 (by rw [v0]; rfl) (c4 84 _ cs84 (by intro z; cases z)) (g4 84 _ cs84 (by intro z; cases z)) c1 g1 (tp_th (n := f + 68) (g4 84 _ cs84 (by intro z; cases z))), fin, by omega, by omega⟩
    · rw [if_neg hA] at tx v0
      have hx0 : x = 1 := hxe.trans tx
      subst hx0
      exact ⟨h2, _, _, f + 64, L, im, by omega, tp_h1 (E := E) (n := f + 64) (d := d') (I := I) (i := iv) (y := y) (t := h2.2.1 84 0) (u5 := u5) (u6 := u6) (fun k hk => baddk hiv (by omega) (by omega)) hI6 (by rw [v0]; rfl) (c4 84 _ cs84 (by intro z; cases z)) (g4 84 _ cs84 (by intro z; cases z)) c1 g1 (tp_th (n := f + 68) (g4 84 _ cs84 (by intro z; cases z))), fin, by omega, by omega⟩
end OT
