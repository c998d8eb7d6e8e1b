/-! turns of the law at law, house, image, back, feed (wip/zab2/c/lgen30.py) -/
set_option maxRecDepth 100000 in
theorem p846 {E : zE} {h : zH} : bpv E [(h.2.1 84 6).toInt] [(84, 6, (0, [(0, 1)]))] h := by
  intro e he
  cases he with
  | tail _ he => exact absurd he List.not_mem_nil
  | head =>
    show brel _ (0, [(0, 1)]) (bvl E h 84 6)
    rw [bvl_n (show Nat.blt 84 900 = true from rfl)]
    exact brel_v rfl
set_option maxRecDepth 100000 in
theorem wX85 : ∀ k, k < 1626 → Nat.testBit wX (bun 85 k) = false := by decide +kernel
set_option maxRecDepth 100000 in
theorem wX84q : ∀ k, k < 20 → Nat.testBit wX (bun 84 k) = false := by decide +kernel
set_option maxRecDepth 100000 in
theorem wX84 {h h1 : zH} {a b : Nat} (r1 : bRQ ctb wX h a b h1) (k : Nat) (hk : k < 20 := by decide) : h1.2.1 84 k = h.2.1 84 k := r1.2.2.2.1 84 k (wX84q k hk)
set_option maxRecDepth 100000 in
theorem ltx94 {h : zH} (a : zat h.1 94 = some (.inl (2, 1, []))) : 94 < h.1.length := by
  by_cases hl : 94 < h.1.length
  · exact hl
  · rw [zat_no (by omega)] at a
    cases a
section OQ
variable {E : zE} {B : Nat} {h : zH} {L im : Nat}
set_option maxRecDepth 100000 in
theorem law7 (hsm : bSO E ctb B (60, smT)) (hI : bHI h) (hP : bPS h) (hT : bTB ctb h.1) : ∀ d f, 50 ≤ d → B + 100000 ≤ f → ∀ {v : Option Value} {h' : zH}, zex E f d 266 0 [some (.ref 84), none, none] [] h = some (.inl v, h') → (h'.2.1 84 7).toInt = 0 ∨ h'.2.1 84 7 = h.2.1 84 7 := by
  intro d f hd hf v h' c1
  obtain ⟨d', hd'⟩ : ∃ d', d = d' + 1 := ⟨d - 1, by omega⟩
  subst hd'
  obtain ⟨n, hn⟩ : ∃ n, f = n + 18 + 3 := ⟨f - 21, by omega⟩
  subst hn
  obtain ⟨v1, h1, e1, k2, k3, k4, k5, k6, q1, m1, b1⟩ := hsm 264 [sc340, sc341] rfl sc341 (List.Mem.tail _ (List.Mem.head _)) (by decide) [] [.ref 84, .int 0] h d' (n + 18) (2, 3, 0, 12, 1, 0) rfl (by show 42 ≤ d'; omega) (by omega) ⟨rfl, ⟨_, rfl, brel_c _ 0⟩, trivial⟩ benv_n bcs_n (fun e he => absurd he List.not_mem_nil) hI hP hT
  obtain ⟨x, hx⟩ := bPR_i m1 (by decide) b1
  subst hx
  have e1 : zex E (n + 18) d' 264 0 [some (.ref 84), some (.int 0), none] [] h = some (.inl (some (.int x)), h1) := e1
  have e2 := xq_0 (u1 := none) (u2 := none) (hT 84 _ cs84 (by intro z; cases z)) e1
  have a84 := k3.2 84 _ cs84 (by intro z; cases z)
  have a85 := k3.2 85 _ ks85 (by intro z; cases z)
  have f7 : h1.2.1 84 7 = h.2.1 84 7 := k4 84 7 (by decide +kernel)
  by_cases hx : 0 ≤ x.toInt
  · obtain ⟨k, hk⟩ : ∃ k, n + 18 = k + 10 + 3 + 17 * 849 + 20 := ⟨n + 18 - 14466, by omega⟩
    rw [hk] at e2
    have e3 := ml_5s (E := E) (n := k + 10 + 3 + 17 * 849) (d := d') (u1 := none) (u2 := none) (x := x) (h := h1) hx a84 a85 (mt_0 (u2 := some (.int 1)))
    have e4 := zllaw_loop (E := E) (d := d' + 1) (a := 84) (t := 85) (w := 85) (sh := h1.1) (v := (zsetI (zsetI h1 84 (upd (h1.2.1 84) 14 (-1))) 85 (upd ((zsetI h1 84 (upd (h1.2.1 84) 14 (-1))).2.1 85) 1626 x)).2.1) (rest := h1.2.2) (l1 := x) a84 rfl rfl a85 a85 (o := 777) (q := 1626) (fun k hk => baddk (by decide) (by omega) (by omega)) (fun k hk => baddk (by decide) (by omega) (by omega)) (by omega) (by omega) (Or.inr (by omega)) 849 0 (k + 10) rfl
    rw [zcpg_0] at e4
    have e5 := ml_85 (E := E) (n := k) (d := d') (u2 := some (.int (Int32.ofNat 849))) (x := x) (h := (h1.1, zcpg (zsetI (zsetI h1 84 (upd (h1.2.1 84) 14 (-1))) 85 (upd ((zsetI h1 84 (upd (h1.2.1 84) 14 (-1))).2.1 85) 1626 x)).2.1 85 85 777 1626 849, h1.2.2)) a84 a85
    have e6 := e2.trans (e3.trans (e4.trans e5))
    have f0 : k + 10 + 3 + 17 * 849 + 20 + 3 = n + 18 + 3 := by omega
    rw [f0] at e6
    obtain ⟨f1, f2⟩ := inl_j c1 e6
    left
    rw [f2, zs_at, upd_e]
    rfl
  · obtain ⟨m, hm⟩ : ∃ m, n = m + 4 := ⟨n - 4, by omega⟩
    subst hm
    have e3 := ml_5f (E := E) (n := m + 4) (d := d') (u1 := none) (u2 := none) (x := x) (h := h1) (by omega) a84 (mt_1 (n := m) a84)
    obtain ⟨f1, f2⟩ := inl_j c1 (e2.trans e3)
    right
    rw [f2, zs_at, upd_n (by decide), zs_at, upd_n (by decide)]
    exact f7
set_option maxRecDepth 100000 in
theorem op_law (hE : E.1 ≤ 3072) (hsm : bSO E ctb B (60, smT)) (hX : LX h L im) {iv : Int32} {I : Nat} (hiv : iv.toInt = (I : Int)) (hI6 : I + 6 ≤ E.1) {u5 u6 : Option Value} : ∀ d f, 100 ≤ d → B + 20000000000000000 ≤ f → opS E d iv f h (zex E (f + 100) d 0 362 (t5K iv u5 u6) [] h) := by
  intro d f hd hf
  obtain ⟨d', hd'⟩ : ∃ d', d = d' + 1 := ⟨d - 1, by omega⟩
  subst hd'
  obtain ⟨hL9, pX, pE⟩ := id hX
  obtain ⟨gI, gP, gT, ⟨p1, p2, p3, p4⟩, p5, p6, p7, p8⟩ := id hL9
  obtain ⟨tR, u8⟩ := sg8_R (L := L) p7 p8
  obtain ⟨k, h1, e1, r1, x1, x2⟩ := slawW (F := 1000000) (G := 2000000000) (H := 815000000000) (show E.1 < 2147483648 by omega) hsm p7 (Nat.le_refl _) (by omega) (by omega) p5 gI gP gT p1 (u2 := none) d' (f + 97) (by omega) (by omega)
  have hT9 : tp90 h1 = tp90 h := tp90_e fun i => r1.2.2.2.1 90 i wD90
  obtain ⟨y, h2, e2, r2, y1, y2⟩ := mlawE (h0 := h1) (L := L) (F := 1000000) (G := 2000000000) (H := 815000000000) (show E.1 < 2147483648 by omega) (by omega) hsm (by rw [hT9]; exact u8) (Nat.le_refl _) (by omega) (by omega) p5 r1.1 r1.2.1 r1.2.2.1 (by rw [r1.2.2.2.1 84 9 wD849]; exact p2) d' (f + 94) (by omega) (by omega)
  rw [hT9, lawq_q tR] at y2
  have c5 : Fr sc1.2.1 h h1 := r1.2.2.2.1
  have g5 : Fr sc343.2.1 h1 h2 := r2.2.2.2.1
  have q1 := r1.2.2.2.2
  have q2 := r2.2.2.2.2
  have e := tp_law (E := E) (n := f + 90) (d := d') (I := I) (i := iv) (x := k) (y := y) (u5 := u5) (u6 := u6) (fun k hk => baddk hiv (by omega) (by omega)) hI6 (r1.2.2.1 84 _ cs84 (by intro z; cases z)) e1 e2
  have z7 := law7 (E := E) hsm r1.1 r1.2.1 r1.2.2.1 d' (f + 94) (by omega) (by omega) e2
  have fP := FrP_w (by decide +kernel : wF sc1.2.1 lP = true) c5
  have fP2 := FrP_w (by decide +kernel : wF sc343.2.1 lP = true) g5
  have r89 : ∀ k, h2.2.1 89 k = h1.2.1 89 k := fun k => g5 89 k (show Nat.testBit sc343.2.1 (bun 89 0) = false by decide +kernel)
  have k27 := w27l (E := E) (by omega) hsm gI gP gT (by omega) (by omega) e1
  have m87 := law8 (E := E) hsm r1.1 r1.2.1 r1.2.2.1 d' (f + 94) (by omega) (by omega) e2
  have x27 : h2.2.1 27 2 = h1.2.1 27 2 := g5 27 2 (by decide +kernel)
  have x273 : h2.2.1 27 3 = h.2.1 27 3 := (g5 27 3 (by decide +kernel)).trans (c5 27 3 (by decide +kernel))
  have x84 : h1.2.1 84 7 = h.2.1 84 7 := c5 84 7 (by decide +kernel)
  have a1 : paQ h1 := paQ_g e1 r1.1 r1.2.1 (by rcases k27 with z | z; exact Or.inl z.2; exact Or.inr z.2) (c5 27 3 (by decide +kernel)) pE.2.1
  have qxl : ((h1.2.1 27 2).toInt = 0 ∨ (h1.2.1 27 2).toInt = (h.2.1 27 2).toInt) → QX h2 := fun hz => ⟨SXn_w (by decide +kernel : wF sc343.2.1 lNq = true) g5 (Q85_w (by decide +kernel : wF sc343.2.1 l85 = true) g5) (SXn_w (by decide +kernel : wF sc1.2.1 lNq = true) c5 (Q85_w (by decide +kernel : wF sc1.2.1 l85 = true) c5) pE.2.2.1), QI_w (by decide +kernel : wF sc343.2.1 lQI = true) g5 (QI_w (by decide +kernel : wF sc1.2.1 lQI = true) c5 pE.2.2.2.1), by
    rcases hz with hz | hz
    · exact QP_0 (by rw [x27]; exact hz)
    · exact QP_f ((g5 4 0 (by decide +kernel)).trans (c5 4 0 (by decide +kernel))) ((g5 4 2 (by decide +kernel)).trans (c5 4 2 (by decide +kernel))) (fun k _ _ => (g5 8 k (show Nat.testBit sc343.2.1 (bun 8 0) = false by decide +kernel)).trans (c5 8 k (show Nat.testBit sc1.2.1 (bun 8 0) = false by decide +kernel))) (Int32.toInt_inj.mp (by rw [x27]; exact hz)) x273 (fun r hr c hc k => ((RS9_w (by decide +kernel : wF sc343.2.1 lPa = true) (g5 27 3 (by decide +kernel)) g5).1 _ (by omega) (by omega) k).trans ((RS9_w (by decide +kernel : wF sc1.2.1 lPa = true) (c5 27 3 (by decide +kernel)) c5).1 _ (by omega) (by omega) k)) (fun k => (g5 89 k (show Nat.testBit sc343.2.1 (bun 89 0) = false by decide +kernel)).trans (c5 89 k (show Nat.testBit sc1.2.1 (bun 89 0) = false by decide +kernel))) pE.2.2.2.2⟩
  have ex : EX h2 := by
    refine ⟨Int32.toInt_inj.mp ?_, paQ_f e2 r2.2.1 x27 (g5 27 3 (by decide +kernel)) a1, qxl (by rcases k27 with z | z; exact Or.inl z.2; exact Or.inr z.2)⟩
    cases hl : lawq (tp2 h) L with
    | inl m =>
      rw [hl] at x2 y2
      have v1 : (h1.2.1 27 2).toInt = 0 := by
        rcases k27 with z | z
        · exact z.2
        · rw [x2.1] at z; exact absurd z.1 (by decide)
      have v2 : (h2.2.1 84 7).toInt = 0 := by
        rcases m87 with z | z
        · exact z.2
        · rw [y2.2.1] at z; exact absurd z.1 (by decide)
      rw [x27, v1, v2]
    | inr w =>
      rw [hl] at x2 y2
      have v1 : (h1.2.1 27 2).toInt = (h.2.1 27 2).toInt := by
        rcases k27 with z | z
        · rw [x2.1] at z; exact absurd z.1 (by decide)
        · exact z.2
      have v2 : h2.2.1 84 7 = h1.2.1 84 7 := by
        rcases m87 with z | z
        · rw [y2.2] at z; omega
        · exact z.2
      rw [x27, v1, v2, x84, pE.1]
  refine ⟨h2, _, _, f + 90, 0, im, by omega, e, ⟨LI_u r2.1 r2.2.1 r2.2.2.1 (fun k => (g5 2 k (show Nat.testBit sc343.2.1 (bun 2 0) = false by decide +kernel)).trans (c5 2 k (show Nat.testBit sc1.2.1 (bun 2 0) = false by decide +kernel))) (fun k => (g5 90 k (show Nat.testBit sc343.2.1 (bun 90 0) = false by decide +kernel)).trans (c5 90 k (show Nat.testBit sc1.2.1 (bun 90 0) = false by decide +kernel))) (by rw [g5 1 1 (by decide +kernel)]; exact x1) y1 ((g5 30 4 (by decide +kernel)).trans (c5 30 4 (by decide +kernel))) ((g5 84 6 (by decide +kernel)).trans (c5 84 6 (by decide +kernel))) hL9, PX_a (FrP_t fP fP2) (fun a => AI_7 z7 r89 fP2.2.2.2.2 (AI_f (FrA_w (by decide +kernel : wF sc1.2.1 lA = true) c5) fP.2.2.2.2 a)) (FrI_t (FrI_w (by decide +kernel : wF sc1.2.1 lI = true) c5) (FrI_w (by decide +kernel : wF sc343.2.1 lI = true) g5)) pX, ex⟩, by omega, by omega⟩
set_option maxRecDepth 100000 in
theorem op_house (hE : E.1 ≤ 3072) (hsm : bSO E ctb B (60, smT)) (hX : LX h L im) {iv : Int32} {I : Nat} (hiv : iv.toInt = (I : Int)) (hI6 : I + 6 ≤ E.1) {u5 u6 : Option Value} : ∀ d f, 100 ≤ d → B + 400000000000 ≤ f → opS E d iv f h (zex E (f + 100) d 0 346 (t5K iv u5 u6) [] h) := by
  intro d f hd hf
  obtain ⟨d', hd'⟩ : ∃ d', d = d' + 1 := ⟨d - 1, by omega⟩
  subst hd'
  obtain ⟨hL9, pX, pE⟩ := id hX
  obtain ⟨gI, gP, gT, ⟨p1, p2, p3, p4⟩, p5, p6, p7, p8⟩ := id hL9
  obtain ⟨⟨σ, hR, hM, hW, h3⟩, pA, pI⟩ := id pX
  obtain ⟨tR, u8⟩ := sg8_R (L := L) p7 p8
  have kC := fun f hf => whouseE (F := 1000000) (show E.1 < 2147483648 by omega) hsm p7 (Nat.le_refl _) p5 gI gP gT p1 hR hW (u2 := none) d' f (by omega) hf
  have fr : ∀ {h1 : zH}, bRQ ctb wX h 1 6 h1 → (∀ k, k < 1626 → h1.2.1 85 k = h.2.1 85 k) ∧ (∀ k, k < 20 → h1.2.1 84 k = h.2.1 84 k) ∧ (∀ k, h1.2.1 89 k = h.2.1 89 k) ∧ (∀ k, h1.2.1 2 k = h.2.1 2 k) ∧ (∀ k, h1.2.1 90 k = h.2.1 90 k) ∧ h1.2.1 30 4 = h.2.1 30 4 ∧ FrI h h1 := fun {h1} r1 => ⟨fun k hk => r1.2.2.2.1 85 k (wX85 k hk), fun k hk => wX84 r1 k hk, fun k => r1.2.2.2.1 89 k (show Nat.testBit wX (bun 89 0) = false by decide +kernel), fun k => r1.2.2.2.1 2 k (show Nat.testBit wX (bun 2 0) = false by decide +kernel), fun k => r1.2.2.2.1 90 k (show Nat.testBit wX (bun 90 0) = false by decide +kernel), r1.2.2.2.1 30 4 (by decide +kernel), FrI_w (by decide +kernel : wF wX lI = true) r1.2.2.2.1⟩
  have kM := fun {h1 : zH} (r1 : bRQ ctb wX h 1 6 h1) f hf => mhouseE (E := E) (B := B) (F := 1000000) (h0 := h1) (L := L) (σ := σ) (show E.1 < 2147483648 by omega) hsm (Nat.le_refl _) p5 r1.1 r1.2.1 r1.2.2.1 (by rw [(fr r1).2.1 9 (by decide)]; exact p2) (RM_w hM hW fun k hk => (fr r1).1 k (by omega)) hW d' f (by omega) hf
  have T9 : ∀ {h1 : zH}, bRQ ctb wX h 1 6 h1 → houseq (tp90 h1) L σ = houseq (tp2 h) L σ := fun {h1} r1 => by
    rw [show tp90 h1 = tp90 h from tp90_e fun i => (fr r1).2.2.2.2.1 i]
    exact houseq_q tR σ
  have b43 := gI.1 4 3
  have b43 : (0 : Int) ≤ (h.2.1 4 3).toInt ∧ (h.2.1 4 3).toInt ≤ 12 := b43
  have li : ∀ {h1 h2 : zH}, bRQ ctb wX h 1 6 h1 → bRQ ctb sc342.2.1 h1 0 0 h2 → (h1.2.1 1 1).toInt = 0 → (h2.2.1 84 9).toInt = 0 → LI h2 0 im := fun {h1 h2} r1 r2 z1 z9 => LI_u r2.1 r2.2.1 r2.2.2.1 (fun k => (r2.2.2.2.1 2 k (show Nat.testBit sc342.2.1 (bun 2 0) = false by decide +kernel)).trans ((fr r1).2.2.2.1 k)) (fun k => (r2.2.2.2.1 90 k (show Nat.testBit sc342.2.1 (bun 90 0) = false by decide +kernel)).trans ((fr r1).2.2.2.2.1 k)) (by rw [r2.2.2.2.1 1 1 (by decide +kernel)]; exact z1) z9 ((r2.2.2.2.1 30 4 (by decide +kernel)).trans (fr r1).2.2.2.2.2.1) ((r2.2.2.2.1 84 6 (by decide +kernel)).trans ((fr r1).2.1 6 (by decide))) hL9
  have fC : ∀ {h1 h2 : zH}, bRQ ctb sc342.2.1 h1 0 0 h2 → FrC h1 h2 := fun r2 => FrC_w (by decide +kernel : wF sc342.2.1 lC = true) r2.2.2.2.1
  have fI : ∀ {h1 h2 : zH}, bRQ ctb sc342.2.1 h1 0 0 h2 → FrI h1 h2 := fun r2 => FrI_w (by decide +kernel : wF sc342.2.1 lI = true) r2.2.2.2.1
  have r89 : ∀ {h1 h2 : zH}, bRQ ctb sc342.2.1 h1 0 0 h2 → ∀ k, h2.2.1 89 k = h1.2.1 89 k := fun r2 k => r2.2.2.2.1 89 k (show Nat.testBit sc342.2.1 (bun 89 0) = false by decide +kernel)
  -- nothing stays of a text that is refused
  have no : ∀ {h1 h2 : zH}, bRQ ctb wX h 1 6 h1 → bRQ ctb sc342.2.1 h1 0 0 h2 → RC h1 4 18 σ → h1.2.1 4 3 = h.2.1 4 3 → h2.2.1 84 7 = h1.2.1 84 7 → (∀ k, k < 1626 → h2.2.1 85 k = h1.2.1 85 k) → PX h2 im := fun {h1 h2} r1 r2 hR1 h43 h7 row => by
    have row2 : ∀ k, k < 1626 → h2.2.1 85 k = h.2.1 85 k := fun k hk => (row k hk).trans ((fr r1).1 k hk)
    refine ⟨⟨sσ h2 18 σ, RC_new hR1 (fun k hk => (fC r2).1 k (by omega)) (fC r2).2.1 (fC r2).2.2.1 (fC r2).2.2.2, RMf_p hM hW (fun k hk => row2 k (by have := hk.1; omega)), hW, ?_⟩, ?_, fun z => PI_f (FrI_t (fr r1).2.2.2.2.2.2 (fI r2)) (pI z)⟩
    · rw [(fC r2).1 3 (by decide), h43, row2 3 (by decide)]; exact h3
    · exact AI_f ⟨fun k => (r89 r2 k).trans ((fr r1).2.2.1 k), h7.trans ((fr r1).2.1 7 (by decide))⟩ (fun k hk => row2 k (by have := hk.1; omega)) pA
  have ex : ∀ {h1 h2 : zH} {d f d2 f2 : Nat} {ls ls2 : zLs} {st st2 : List Value} {x y : Int32} {mi pc : Nat}, bRQ ctb wX h 1 6 h1 → bRQ ctb sc342.2.1 h1 0 0 h2 → zex E f d 1 0 ls st h = some (.inl (some (.int x)), h1) → zex E f2 d2 mi pc ls2 st2 h1 = some (.inl (some (.int y)), h2) → ((h1.2.1 27 2).toInt = 0 ∨ (h1.2.1 27 2).toInt = (h.2.1 27 2).toInt) → (h1.2.1 27 2).toInt = (h2.2.1 84 7).toInt → QX h2 → EX h2 := fun {h1 h2} {d f d2 f2 ls ls2 st st2 x y mi pc} r1 r2 e1 e2 hz hq hx9 => ⟨Int32.toInt_inj.mp (by rw [r2.2.2.2.1 27 2 (by decide +kernel)]; exact hq), paQ_f e2 r2.2.1 (r2.2.2.2.1 27 2 (by decide +kernel)) (r2.2.2.2.1 27 3 (by decide +kernel)) (paQ_g e1 r1.1 r1.2.1 hz (r1.2.2.2.1 27 3 (by decide +kernel)) pE.2.1), hx9⟩
  have nf : ∀ {h1 h2 : zH} {d f : Nat} {x : Int32}, bRQ ctb wX h 1 6 h1 → zex E f d 1 0 [some (.ref 0), some (.ref 94), none] [] h = some (.inl (some (.int x)), h1) → x.toInt ≠ 0 → h2.2.1 84 7 = h1.2.1 84 7 → 70 ≤ d → B + 1000000 ≤ f → (h1.2.1 27 2).toInt = (h.2.1 27 2).toInt ∧ (h1.2.1 27 2).toInt = (h2.2.1 84 7).toInt := fun {h1 h2 d f x} r1 e1 hx hy hd9 hf9 => by
    have w := w27h (E := E) (by omega) hsm gI gP gT hd9 hf9 e1
    have w : (h1.2.1 27 2).toInt = (h.2.1 27 2).toInt := by
      rcases w with w | w
      · exact absurd w hx
      · exact w
    refine ⟨w, ?_⟩
    rw [w, hy, (fr r1).2.1 7 (by decide), pE.1]
  obtain ⟨hN0, hZ0⟩ := RN_of_SX hR hW pE.2.2.1
  have qi : ∀ {h1 h2 : zH}, bRQ ctb wX h 1 6 h1 → bRQ ctb sc342.2.1 h1 0 0 h2 → QI h2 := fun {h1 h2} r1 r2 => QI_w (by decide +kernel : wF sc342.2.1 lQI = true) r2.2.2.2.1 (QI_w (by decide +kernel : wF wX lQI = true) r1.2.2.2.1 pE.2.2.2.1)
  have qc : ∀ {h1 h2 : zH} {σ9 : hSt}, bRQ ctb sc342.2.1 h1 0 0 h2 → RC h1 4 18 σ9 → RC h2 4 18 σ9 := fun {h1 h2 σ9} r2 hq => RC_eq hq (fun k hk => by rcases (show k = 0 ∨ k = 1 ∨ k = 2 by omega) with z | z | z <;> subst z <;> exact r2.2.2.2.1 4 _ (by decide +kernel)) (fun k => r2.2.2.2.1 7 k (show Nat.testBit sc342.2.1 (bun 7 0) = false by decide +kernel)) (fun k => r2.2.2.2.1 8 k (show Nat.testBit sc342.2.1 (bun 8 0) = false by decide +kernel)) (fun k => r2.2.2.2.1 9 k (show Nat.testBit sc342.2.1 (bun 9 0) = false by decide +kernel)) (fun k => r2.2.2.2.1 19 k (show Nat.testBit sc342.2.1 (bun 19 0) = false by decide +kernel)) (fun k => r2.2.2.2.1 20 k (show Nat.testBit sc342.2.1 (bun 20 0) = false by decide +kernel)) (fun k => r2.2.2.2.1 21 k (show Nat.testBit sc342.2.1 (bun 21 0) = false by decide +kernel)) (fun k => r2.2.2.2.1 22 k (show Nat.testBit sc342.2.1 (bun 22 0) = false by decide +kernel))
  have qf : ∀ {h1 h2 : zH}, bRQ ctb wX h 1 6 h1 → bRQ ctb sc342.2.1 h1 0 0 h2 → RC h1 4 18 σ → (∀ k, k < 1626 → h2.2.1 85 k = h1.2.1 85 k) → (h1.2.1 27 2).toInt = (h.2.1 27 2).toInt → QX h2 := fun {h1 h2} r1 r2 hq row h27 => by
    have rw2 : ∀ k, k < 1626 → h2.2.1 85 k = h.2.1 85 k := fun k hk => (row k hk).trans ((fr r1).1 k hk)
    have c2 := qc r2 hq
    refine ⟨SX_of_RN c2 hW (RN_q (fun K hK => rw2 K (by have := qx_b hK; omega)) rfl rfl hN0) hZ0 (fun z => (show False from z).elim) (fun z => (show False from z).elim), qi r1 r2, QP_f ?_ ?_ ?_ ?_ ((r2.2.2.2.1 27 3 (by decide +kernel)).trans (r1.2.2.2.1 27 3 (by decide +kernel))) (fun r hr c hc k => ((RS9_w (by decide +kernel : wF sc342.2.1 lPa = true) (r2.2.2.2.1 27 3 (by decide +kernel)) r2.2.2.2.1).1 _ (by omega) (by omega) k).trans ((RS9_w (by decide +kernel : wF wX lPa = true) (r1.2.2.2.1 27 3 (by decide +kernel)) r1.2.2.2.1).1 _ (by omega) (by omega) k)) (fun k => (r2.2.2.2.1 89 k (show Nat.testBit sc342.2.1 (bun 89 0) = false by decide +kernel)).trans ((fr r1).2.2.1 k)) pE.2.2.2.2⟩
    · exact Int32.toInt_inj.mp (by rw [c2.1.1, hR.1.1])
    · exact Int32.toInt_inj.mp (by rw [c2.1.2.2, hR.1.2.2])
    · intro k hk hs
      have hs' : k < sP σ := by rw [hR.1.2.2] at hs; omega
      exact Int32.toInt_inj.mp (by rw [c2.2.2.1 k hs', hR.2.2.1 k hs'])
    · exact Int32.toInt_inj.mp (by rw [r2.2.2.2.1 27 2 (by decide +kernel)]; exact h27)
  cases hl : houseq (tp2 h) L σ with
  | inr w =>
    rw [hl] at kC
    obtain ⟨h1, e1, r1, x1, x2, x3, x4⟩ := kC (f + 97) (by omega)
    have kM := kM r1 (f + 94) (by omega)
    rw [T9 r1, hl] at kM
    obtain ⟨y, h2, e2, r2, y1, y2, y3, y4, y5⟩ := kM
    have q1 := r1.2.2.2.2
    have q2 := r2.2.2.2.2
    exact ⟨h2, _, _, f + 90, 0, im, by omega, tp_house (E := E) (n := f + 90) (d := d') (I := I) (i := iv) (x := 1) (y := y) (u5 := u5) (u6 := u6) (fun k hk => baddk hiv (by omega) (by omega)) hI6 (r1.2.2.1 84 _ cs84 (by intro z; cases z)) e1 e2, ⟨li r1 r2 x1 y3, no r1 r2 x3 x4 y4 y5, (let q := nf (h2 := h2) r1 e1 (by decide) y4 (by omega) (by omega); ex r1 r2 e1 e2 (Or.inr q.1) q.2 (qf r1 r2 x3 y5 q.1))⟩, by omega, by omega⟩
  | inl σ' =>
    rw [hl] at kC
    unfold whQ at kC
    dsimp only at kC
    have kM2 := fun {h1 : zH} (r1 : bRQ ctb wX h 1 6 h1) f hf => kM r1 f hf
    by_cases h12 : 12 ≤ (h.2.1 4 3).toInt
    · have kC := kC (f + 97) (by omega)
      rw [if_pos h12] at kC
      obtain ⟨h1, e1, r1, x1, x2, x3, x4⟩ := kC
      have kM := kM r1 (f + 94) (by omega)
      rw [T9 r1, hl] at kM
      unfold mhQ at kM
      dsimp only at kM
      rw [if_pos (show (h1.2.1 85 3).toInt = 12 by rw [(fr r1).1 3 (by decide), ← h3]; omega)] at kM
      obtain ⟨y, h2, e2, r2, y1, y2, y3, y4, y5⟩ := kM
      have q1 := r1.2.2.2.2
      have q2 := r2.2.2.2.2
      exact ⟨h2, _, _, f + 90, 0, im, by omega, tp_house (E := E) (n := f + 90) (d := d') (I := I) (i := iv) (x := 2) (y := y) (u5 := u5) (u6 := u6) (fun k hk => baddk hiv (by omega) (by omega)) hI6 (r1.2.2.1 84 _ cs84 (by intro z; cases z)) e1 e2, ⟨li r1 r2 x1 y3, no r1 r2 x3 x4 y4 y5, (let q := nf (h2 := h2) r1 e1 (by decide) y4 (by omega) (by omega); ex r1 r2 e1 e2 (Or.inr q.1) q.2 (qf r1 r2 x3 y5 q.1))⟩, by omega, by omega⟩
    · have kC := kC (f + 97) (by omega)
      rw [if_neg h12] at kC
      obtain ⟨h1, e1, r1, x0, x1, x2, x3, x4, x5, x6⟩ := kC
      have kM := kM r1 (f + 94) (by omega)
      rw [T9 r1, hl] at kM
      unfold mhQ at kM
      dsimp only at kM
      have v3 : (h1.2.1 85 3).toInt = (h.2.1 4 3).toInt := by rw [(fr r1).1 3 (by decide), ← h3]
      rw [if_neg (show ¬ (h1.2.1 85 3).toInt = 12 by rw [v3]; omega)] at kM
      obtain ⟨y, h2, e2, r2, y0, y1, y2, y3, y4, y5, y6, y7, y8⟩ := kM
      have q1 := r1.2.2.2.2
      have q2 := r2.2.2.2.2
      refine ⟨h2, _, _, f + 90, 0, im, by omega, tp_house (E := E) (n := f + 90) (d := d') (I := I) (i := iv) (x := 0) (y := y) (u5 := u5) (u6 := u6) (fun k hk => baddk hiv (by omega) (by omega)) hI6 (r1.2.2.1 84 _ cs84 (by intro z; cases z)) e1 e2, ⟨li r1 r2 x1 y3, ?_, ex r1 r2 e1 e2 (Or.inl x6) (by rw [x6, y4]) (by obtain ⟨n9, z9⟩ := y8 (RN_q (fun K hK => (fr r1).1 K (by have := qx_b hK; omega)) rfl rfl hN0) hZ0; exact ⟨SX_of_RN (qc r2 x3) y7 n9 z9 (fun z => (show False from z).elim) (fun z => (show False from z).elim), qi r1 r2, QP_0 (by rw [r2.2.2.2.1 27 2 (by decide +kernel)]; exact x6)⟩)⟩, by omega, by omega⟩
      refine ⟨⟨sσ h2 18 σ', RC_new x3 (fun k hk => (fC r2).1 k (by omega)) (fC r2).2.1 (fC r2).2.2.1 (fC r2).2.2.2, y6, y7, ?_⟩, fun b hb => ?_, fun z => PI_f (FrI_t (fr r1).2.2.2.2.2.2 (fI r2)) (pI z)⟩
      · rw [(fC r2).1 3 (by decide)]
        exact Int32.toInt_inj.mp (by rw [x5, y5, v3])
      · rw [y4] at hb; omega
set_option maxRecDepth 100000 in
theorem op_image (hE : E.1 ≤ 3072) (hsm : bSO E ctb B (60, smT)) (hX : LX h L im) {iv : Int32} {I : Nat} (hiv : iv.toInt = (I : Int)) (hI6 : I + 6 ≤ E.1) {u5 u6 : Option Value} : ∀ d f, 100 ≤ d → B + 6000000 ≤ f → opS E d iv f h (zex E (f + 100) d 0 1900 (t5K iv u5 u6) [] h) := by
  intro d f hd hf
  obtain ⟨d', hd'⟩ : ∃ d', d = d' + 1 := ⟨d - 1, by omega⟩
  subst hd'
  obtain ⟨hL9, pX, pE⟩ := id hX
  obtain ⟨gI, gP, gT, ⟨p1, p2, p3, p4⟩, p5, p6, p7, p8⟩ := id hL9
  obtain ⟨⟨σ, hR, hM, hW, h3⟩, pA, pI⟩ := id pX
  obtain ⟨h1, e1, r1, pt, t30⟩ := imageC (E := E) (by omega) hsm gI gP gT d' (f + 98) (by omega) (by omega)
  obtain ⟨v2, h2, g1, g2, ⟨g3, g4⟩, g5, g6, g7, q2, m2, b2⟩ := hsm 212 [sc232] rfl sc232 (List.Mem.head _) (by decide) [] [.ref 84] h1 d' (f + 96) (1, 2, 0, 12, 0, 0) rfl (by show 0 ≤ d'; omega) (by omega) ⟨rfl, trivial⟩ benv_n bcs_n (fun e he => absurd he List.not_mem_nil) r1.1 r1.2.1 r1.2.2.1
  have g1 : zex E (f + 96) d' 212 0 [some (.ref 84), none] [] h1 = some (.inl v2, h2) := g1
  obtain ⟨h9, z1, z2, z3, z4, z5⟩ := imageM (E := E) r1.1 r1.2.2.1 (u1 := none) d' (f + 96) (by omega)
  obtain ⟨z6, z7⟩ := inl_j g1 z1
  subst z6
  subst z7
  have e := tp_image (E := E) (n := f + 93) (d := d') (I := I) (i := iv) (x := 0) (y := 0) (u5 := u5) (u6 := u6) (fun k hk => baddk hiv (by omega) (by omega)) hI6 (gT 0 _ ks0 (by intro z; cases z)) (r1.2.2.1 84 _ cs84 (by intro z; cases z)) e1 g1
  have q1 := r1.2.2.2.2
  have g8 : h2.2.2.2.1 ≤ h1.2.2.2.1 + 0 := g6
  have g9 : h2.2.2.2.2 ≤ h1.2.2.2.2 + 0 := g7
  have c5 := r1.2.2.2.1
  have fP := FrP_t (FrP_w (by decide +kernel : wF sc43.2.1 lP = true) c5) (FrP_w (by decide +kernel : wF sc232.2.1 lP = true) g5)
  have fA := FrA_t (FrA_w (by decide +kernel : wF sc43.2.1 lA = true) c5) (FrA_w (by decide +kernel : wF sc232.2.1 lA = true) g5)
  have f1 := FrP_w (by decide +kernel : wF sc43.2.1 lP = true) c5
  have t2 : tp2 h2 = tp2 h := tp2_e fun i => (g5 2 i (show Nat.testBit sc232.2.1 (bun 2 0) = false by decide +kernel)).trans (c5 2 i (show Nat.testBit sc43.2.1 (bun 2 0) = false by decide +kernel))
  have t9 : tp90 h2 = tp90 h := tp90_e fun i => (g5 90 i (show Nat.testBit sc232.2.1 (bun 90 0) = false by decide +kernel)).trans (c5 90 i (show Nat.testBit sc43.2.1 (bun 90 0) = false by decide +kernel))
  have i31 : ∀ k, k < 4 → h2.2.1 31 k = h1.2.1 31 k := lt4 (g5 31 0 (by decide +kernel)) (g5 31 1 (by decide +kernel)) (g5 31 2 (by decide +kernel)) (g5 31 3 (by decide +kernel))
  have x27 : h2.2.1 27 2 = h.2.1 27 2 := (g5 27 2 (by decide +kernel)).trans (c5 27 2 (by decide +kernel))
  have x273 : h2.2.1 27 3 = h.2.1 27 3 := (g5 27 3 (by decide +kernel)).trans (c5 27 3 (by decide +kernel))
  have d5 := row_w (by decide +kernel : wF sc43.2.1 lRow = true) c5
  have ix := imageX (E := E) gT (by omega) (by omega) e1
  have E8 : ∀ k, h2.2.1 8 k = h.2.1 8 k := fun k => (g5 8 k (show Nat.testBit sc232.2.1 (bun 8 0) = false by decide +kernel)).trans (c5 8 k (show Nat.testBit sc43.2.1 (bun 8 0) = false by decide +kernel))
  have qx2 : QX h2 := ⟨SXn_w (by decide +kernel : wF sc232.2.1 lNq = true) g5 (Q85_w (by decide +kernel : wF sc232.2.1 l85 = true) g5) (SXn_w (by decide +kernel : wF sc43.2.1 lNq = true) c5 (Q85_w (by decide +kernel : wF sc43.2.1 l85 = true) c5) pE.2.2.1), fun _ => SX_f ((i31 0 (by decide)).trans (pt.1 0 (by decide))) ((i31 2 (by decide)).trans (pt.1 2 (by decide))) (fun k hk _ => (g5 35 k (show Nat.testBit sc232.2.1 (bun 35 0) = false by decide +kernel)).trans (pt.2.2.1 k hk)) (fun c k m q => (qg_f (by decide +kernel : wF sc232.2.1 lQG = true) g5 c k m q).trans (ix c k (qk_g q).1)) (fun c k m q => by rw [Nat.zero_add]; exact (z4 m (by have := (qk_g q).2.1; omega)).trans (d5 m (qk_g q).2.1)) pE.2.2.1, QP_f ((g5 4 0 (by decide +kernel)).trans (c5 4 0 (by decide +kernel))) ((g5 4 2 (by decide +kernel)).trans (c5 4 2 (by decide +kernel))) (fun k _ _ => E8 k) x27 x273 (fun r hr c hc k => ((RS9_w (by decide +kernel : wF sc232.2.1 lPa = true) (g5 27 3 (by decide +kernel)) g5).1 _ (by omega) (by omega) k).trans ((RS9_w (by decide +kernel : wF sc43.2.1 lPa = true) (c5 27 3 (by decide +kernel)) c5).1 _ (by omega) (by omega) k)) (fun k => (g5 89 k (show Nat.testBit sc232.2.1 (bun 89 0) = false by decide +kernel)).trans (c5 89 k (show Nat.testBit sc43.2.1 (bun 89 0) = false by decide +kernel))) pE.2.2.2.2⟩
  have ex : EX h2 := ⟨by rw [x27, g5 84 7 (by decide +kernel), c5 84 7 (by decide +kernel)]; exact pE.1, paQ_f g1 g3 (g5 27 2 (by decide +kernel)) (g5 27 3 (by decide +kernel)) (paQ_f e1 r1.2.1 (c5 27 2 (by decide +kernel)) (c5 27 3 (by decide +kernel)) pE.2.1), qx2⟩
  refine ⟨h2, _, _, f + 93, L, 1, by omega, e, ⟨⟨g2, g3, g4, ⟨?_, ?_, ?_, ?_⟩, p5, Nat.le_refl _, by rw [t2]; exact p7, by rw [t2, t9]; exact p8⟩, ⟨PL_f fP ⟨σ, hR, hM, hW, h3⟩, AI_f fA fP.2.2.2.2 pA, fun _ => ⟨sσ h2 44 (sσ h1 44 σ), RC_new (RC_to hR hW (fun k hk => pt.1 k (by omega)) pt.2.1 pt.2.2.1 pt.2.2.2) (fun k hk => i31 k (by omega)) (fun k => g5 34 k (show Nat.testBit sc232.2.1 (bun 34 0) = false by decide +kernel)) (fun k => g5 35 k (show Nat.testBit sc232.2.1 (bun 35 0) = false by decide +kernel)) (fun k => g5 36 k (show Nat.testBit sc232.2.1 (bun 36 0) = false by decide +kernel)), RMf_p hM hW (fun k hk => (z4 k (by have := hk.1; omega)).trans (f1.2.2.2.2 k hk)), hW, ?_⟩⟩, ex⟩, by omega, by omega⟩
  · rw [g5 1 1 (by decide +kernel), c5 1 1 (by decide +kernel)]; exact p1
  · rw [g5 84 9 (by decide +kernel), c5 84 9 (by decide +kernel)]; exact p2
  · rw [g5 30 4 (by decide +kernel)]; exact t30
  · exact z5
  · rw [i31 3 (by decide), pt.1 3 (by decide), z4 3 (by decide), f1.2.2.2.2 3 plk_n.2.2.2]; exact h3
set_option maxRecDepth 100000 in
theorem op_back (hE : E.1 ≤ 3072) (hsm : bSO E ctb B (60, smT)) (hX : LX h L im) {iv : Int32} {I : Nat} (hiv : iv.toInt = (I : Int)) (hI6 : I + 6 ≤ E.1) {u5 u6 : Option Value} : ∀ d f, 100 ≤ d → B + 6000000 ≤ f → opS E d iv f h (zex E (f + 100) d 0 1911 (t5K iv u5 u6) [] h) := by
  intro d f hd hf
  obtain ⟨d', hd'⟩ : ∃ d', d = d' + 1 := ⟨d - 1, by omega⟩
  subst hd'
  obtain ⟨hL9, pX, pE⟩ := id hX
  obtain ⟨gI, gP, gT, ⟨p1, p2, p3, p4⟩, p5, p6, p7, p8⟩ := id hL9
  obtain ⟨⟨σ, hR, hM, hW, h3⟩, pA, pI⟩ := id pX
  obtain ⟨x, h1, e1, r1, pt⟩ := backC (E := E) (by omega) hsm gI gP gT d' (f + 98) (by omega) (by omega)
  obtain ⟨v2, h2, g1, g2, ⟨g3, g4⟩, g5, g6, g7, q2, m2, b2⟩ := hsm 213 [sc233] rfl sc233 (List.Mem.head _) (by decide) [(h1.2.1 84 6).toInt] [.ref 84] h1 d' (f + 95) (1, 2, 0, 12, 2, 0) rfl (by show 0 ≤ d'; omega) (by omega) ⟨rfl, trivial⟩ (benv_c (r1.1.1 84 6).1 (r1.1.1 84 6).2 benv_n) bcs_n p846 r1.1 r1.2.1 r1.2.2.1
  have g1 : zex E (f + 95) d' 213 0 [some (.ref 84), none] [] h1 = some (.inl v2, h2) := g1
  obtain ⟨y, h9, z1, z2, z3, z4⟩ := backM (E := E) r1.1 r1.2.2.1 (u1 := none) d' (f + 95) (by omega)
  obtain ⟨z6, z7⟩ := inl_j g1 z1
  subst z6
  subst z7
  have e := tp_back (E := E) (n := f + 91) (d := d') (I := I) (i := iv) (u5 := u5) (u6 := u6) (fun k hk => baddk hiv (by omega) (by omega)) hI6 (gT 0 _ ks0 (by intro z; cases z)) (r1.2.2.1 84 _ cs84 (by intro z; cases z)) e1 g1
  have q1 := r1.2.2.2.2
  have g8 : h2.2.2.2.1 ≤ h1.2.2.2.1 + 0 := g6
  have g9 : h2.2.2.2.2 ≤ h1.2.2.2.2 + 0 := g7
  have c5 := r1.2.2.2.1
  have fI := FrI_t (FrI_w (by decide +kernel : wF sc44.2.1 lI = true) c5) (FrI_w (by decide +kernel : wF sc233.2.1 lI = true) g5)
  have lt := LI_f g2 g3 g4 (FrT_t (FrT_w (by decide +kernel : wF sc44.2.1 lT = true) c5) (FrT_w (by decide +kernel : wF sc233.2.1 lT = true) g5)) hL9
  have fC := FrC_w (by decide +kernel : wF sc233.2.1 lC = true) g5
  have a1 := FrA_w (by decide +kernel : wF sc44.2.1 lA = true) c5
  have r1p : ∀ k, plk k → h1.2.1 85 k = h.2.1 85 k := fun k hk => c5 85 k (by rw [hk.2]; decide +kernel)
  have s6 : (h1.2.1 84 6).toInt = (im : Int) := by rw [c5 84 6 (by decide +kernel)]; exact p4
  have x27 : h2.2.1 27 2 = h1.2.1 27 2 := g5 27 2 (by decide +kernel)
  have x84 : h1.2.1 84 7 = h.2.1 84 7 := c5 84 7 (by decide +kernel)
  have k27 : (im = 0 → (h1.2.1 27 2).toInt = (h.2.1 27 2).toInt) ∧ (im ≠ 0 → (h1.2.1 27 2).toInt = 0) := ⟨fun hz => w27b0 (E := E) (by omega) hsm gI gP gT (by omega) (by omega) (by rw [p3, hz]; rfl) e1, fun hz => w27b1 (E := E) (by omega) hsm gI gP gT (by omega) (by omega) (by rw [p3]; omega) e1⟩
  have a1q : paQ h1 := paQ_g e1 r1.1 r1.2.1 (by
    by_cases hz : im = 0
    · exact Or.inr (k27.1 hz)
    · exact Or.inl (k27.2 hz)) (c5 27 3 (by decide +kernel)) pE.2.1
  have g18 : ∀ c k, gqP c k → h2.2.1 (18 + c) k = h1.2.1 (18 + c) k := fun c k q => by
    rcases q with ⟨q1, q2, q3⟩ | ⟨q1, q2⟩ | ⟨q1, q2⟩ | ⟨q1, q2⟩ | ⟨q1, q2⟩ | ⟨q1, q2⟩ | ⟨q1, q2⟩ <;> subst q1
    · rcases (show k = 6 ∨ k = 7 ∨ k = 8 ∨ k = 9 ∨ k = 10 ∨ k = 11 ∨ k = 12 by omega) with z | z | z | z | z | z | z <;> subst z <;> exact g5 18 _ (by decide +kernel)
    · exact g5 19 k (show Nat.testBit sc233.2.1 (bun 19 0) = false by decide +kernel)
    · exact g5 20 k (show Nat.testBit sc233.2.1 (bun 20 0) = false by decide +kernel)
    · exact g5 21 k (show Nat.testBit sc233.2.1 (bun 21 0) = false by decide +kernel)
    · exact g5 22 k (show Nat.testBit sc233.2.1 (bun 22 0) = false by decide +kernel)
    · exact g5 23 k (show Nat.testBit sc233.2.1 (bun 23 0) = false by decide +kernel)
    · exact g5 24 k (show Nat.testBit sc233.2.1 (bun 24 0) = false by decide +kernel)
  have d5 := row_w (by decide +kernel : wF sc44.2.1 lRow = true) c5
  have r86x : ∀ k, h1.2.1 86 k = h.2.1 86 k := fun k => c5 86 k (show Nat.testBit sc44.2.1 (bun 86 0) = false by decide +kernel)
  have qx2 : QX h2 := by
    refine ⟨?_, QI_w (by decide +kernel : wF sc233.2.1 lQI = true) g5 (QI_w (by decide +kernel : wF sc44.2.1 lQI = true) c5 pE.2.2.2.1), ?_⟩
    · by_cases hz : im = 0
      · have b0 := back0 (E := E) gT (by rw [p3, hz]; rfl) (by omega) (by omega) e1
        rw [if_pos (show (h1.2.1 84 6).toInt = 0 by rw [s6, hz]; rfl)] at z4
        exact SX_f (by rw [g5 4 0 (by decide +kernel), b0]) (by rw [g5 4 2 (by decide +kernel), b0]) (fun k _ _ => by rw [g5 8 k (show Nat.testBit sc233.2.1 (bun 8 0) = false by decide +kernel), b0]) (fun c k m q => (g18 c k (qk_g q).1).trans (by rw [b0])) (fun c k m q => by rw [Nat.zero_add]; exact (z4.2 m).trans (d5 m (qk_g q).2.1)) pE.2.2.1
      · have hq : (h.2.1 30 4).toInt ≠ 0 := by rw [p3]; omega
        have bx := backX (E := E) gT hq (by omega) (by omega) e1
        rw [if_neg hq] at pt
        rw [if_neg (show ¬ (h1.2.1 84 6).toInt = 0 by rw [s6]; omega)] at z4
        exact SX_f ((g5 4 0 (by decide +kernel)).trans (pt.1 0 (by decide))) ((g5 4 2 (by decide +kernel)).trans (pt.1 2 (by decide))) (fun k hk _ => (g5 8 k (show Nat.testBit sc233.2.1 (bun 8 0) = false by decide +kernel)).trans (pt.2.2.1 k hk)) (fun c k m q => (g18 c k (qk_g q).1).trans (bx c k (qk_g q).1)) (fun c k m q => by rw [Nat.zero_add]; exact (z4.2 m (by have := (qk_g q).2.1; omega)).trans (r86x m)) (pE.2.2.2.1 hq)
    · by_cases hz : im = 0
      · have b0 := back0 (E := E) gT (by rw [p3, hz]; rfl) (by omega) (by omega) e1
        exact QP_f (by rw [g5 4 0 (by decide +kernel), b0]) (by rw [g5 4 2 (by decide +kernel), b0]) (fun k _ _ => by rw [g5 8 k (show Nat.testBit sc233.2.1 (bun 8 0) = false by decide +kernel), b0]) (by rw [x27, b0]) (by rw [g5 27 3 (by decide +kernel), b0]) (fun r hr c hc k => ((RS9_w (by decide +kernel : wF sc233.2.1 lPa = true) (g5 27 3 (by decide +kernel)) g5).1 _ (by omega) (by omega) k).trans (by rw [b0])) (fun k => (g5 89 k (show Nat.testBit sc233.2.1 (bun 89 0) = false by decide +kernel)).trans (by rw [b0])) pE.2.2.2.2
      · exact QP_0 (by rw [x27]; exact k27.2 hz)
  have ex : EX h2 := by
    refine ⟨Int32.toInt_inj.mp ?_, paQ_f g1 g3 x27 (g5 27 3 (by decide +kernel)) a1q, qx2⟩
    by_cases hz : im = 0
    · rw [if_pos (show (h1.2.1 84 6).toInt = 0 by rw [s6, hz]; rfl)] at z4
      rw [x27, k27.1 hz, z4.1, x84, pE.1]
    · rw [if_neg (show ¬ (h1.2.1 84 6).toInt = 0 by rw [s6]; omega)] at z4
      rw [x27, k27.2 hz, z4.1]
  refine ⟨h2, _, _, f + 91, L, im, by omega, e, ⟨lt, ?_, ex⟩, by omega, by omega⟩
  by_cases hz : im = 0
  · rw [if_pos (show (h.2.1 30 4).toInt = 0 by rw [p3, hz]; rfl)] at pt
    rw [if_pos (show (h1.2.1 84 6).toInt = 0 by rw [s6, hz]; rfl)] at z4
    have r2p : ∀ k, plk k → h2.2.1 85 k = h1.2.1 85 k := fun k _ => z4.2 k
    exact PX_f (FrP_t (FrP_C pt r1p) (FrP_C fC r2p)) (FrA_t a1 ⟨fun k => g5 89 k (show Nat.testBit sc233.2.1 (bun 89 0) = false by decide +kernel), z4.1⟩) fI pX
  · rw [if_neg (show ¬ (h.2.1 30 4).toInt = 0 by rw [p3]; omega)] at pt
    rw [if_neg (show ¬ (h1.2.1 84 6).toInt = 0 by rw [s6]; omega)] at z4
    obtain ⟨τ, iR, iM, iW, i3⟩ := pI (by omega)
    have r86 : ∀ k, h1.2.1 86 k = h.2.1 86 k := fun k => c5 86 k (show Nat.testBit sc44.2.1 (bun 86 0) = false by decide +kernel)
    refine ⟨⟨sσ h2 18 (sσ h1 18 τ), RC_new (RC_to iR iW (fun k hk => pt.1 k (by omega)) pt.2.1 pt.2.2.1 pt.2.2.2) (fun k hk => fC.1 k (by omega)) fC.2.1 fC.2.2.1 fC.2.2.2, RMf_p iM iW (fun k hk => (z4.2 k (by have := hk.1; omega)).trans (r86 k)), iW, ?_⟩, fun b hb => ?_, fun _ => PI_f fI ⟨τ, iR, iM, iW, i3⟩⟩
    · rw [fC.1 3 (by decide), pt.1 3 (by decide), z4.2 3 (by decide), r86 3]; exact i3
    · rw [z4.1] at hb; omega
set_option maxRecDepth 100000 in
theorem op_feed (hX : LX h L im) {iv : Int32} {I : Nat} (hiv : iv.toInt = (I : Int)) (hI : I ≤ 3072) (hI6 : I + 6 ≤ E.1) {u5 u6 : Option Value} : ∀ d f, 100 ≤ d → 6000 ≤ f → opS E d iv f h (zex E (f + 100) d 0 248 (t5K iv u5 u6) [] h) := by
  intro d f hd hf
  obtain ⟨d', hd'⟩ : ∃ d', d = d' + 1 + 1 := ⟨d - 2, by omega⟩
  subst hd'
  obtain ⟨hL9, pX, pE⟩ := id hX
  obtain ⟨x, y, h1, h2, L', e1, e2, s1, s2, s3, s4, s5, s6⟩ := t5_feed hL9 (E.2 (I + 1)) (E.2 (I + 2)) (E.2 (I + 3)) (E.2 (I + 4)) (E.2 (I + 5))
  have a0 := hL9.2.2.1 0 _ ks0 (by intro z; cases z)
  have a84 := hL9.2.2.1 84 _ cs84 (by intro z; cases z)
  obtain ⟨g, hg⟩ : ∃ g, f + 73 = g + 1000 := ⟨f + 73 - 1000, by omega⟩
  obtain ⟨g', hg'⟩ : ∃ g, f + 45 = g + 1000 := ⟨f + 45 - 1000, by omega⟩
  have e3 := e1 E g d'
  rw [← hg] at e3
  have e4 := e2 E g' d'
  rw [← hg'] at e4
  have e := tp_feed (E := E) (n := f + 41) (d := d' + 1) (h := h) (h1 := h1) (h2 := h2) (i := iv) (x := x) (y := y) (u5 := u5) (u6 := u6) (I := I) (fun k hk => baddk hiv (by omega) (by omega)) hI6 a0 (by rw [s1]; exact a84) e3 e4
  have ro27 : ∀ k, h2.2.1 27 k = h.2.1 27 k := fun k => s5 27 (by decide) (by decide) (by decide) (by decide) (by decide) k
  have ro : ∀ c, c = 4 ∨ c = 7 ∨ c = 8 ∨ c = 9 ∨ c = 85 ∨ c = 89 ∨ c = 31 ∨ c = 34 ∨ c = 35 ∨ c = 36 ∨ c = 86 → ∀ k, h2.2.1 c k = h.2.1 c k := fun c hc k => s5 c (by omega) (by omega) (by omega) (by omega) (by omega) k
  refine ⟨h2, _, _, f + 41, L', im, by omega, e, ⟨s4, PX_f ⟨fun k _ => ro 4 (by decide) k, ro 7 (by decide), ro 8 (by decide), ro 9 (by decide), fun k _ => ro 85 (by decide) k⟩ ⟨ro 89 (by decide), s6 7 (by decide) (by decide)⟩ ⟨fun k _ => ro 31 (by decide) k, ro 34 (by decide), ro 35 (by decide), ro 36 (by decide), ro 86 (by decide)⟩ pX, ⟨by rw [ro27 2, s6 7 (by decide) (by decide)]; exact pE.1, paQ_s s2 (ro27 2) (ro27 3) pE.2.1, QX_c (fun c hc k => s5 c (by omega) (by omega) (by omega) (by omega) (by omega) k) pE.2.2⟩⟩, by rw [s3]; omega, by rw [s3]; omega⟩
end OQ
