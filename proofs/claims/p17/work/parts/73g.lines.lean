/-! the class's reader of THE HOUSE: doors, loads, sand (wip/zab2/c/geng7.py) -/
set_option maxRecDepth 100000 in
theorem int20b : (20 : Int32).toInt = 20 := by decide
def dlH1 (h : zH) (A : Nat) : zH := zsetI h 66 (upd (h.2.1 66) A (h.2.1 66 A ||| ((1 : Int32) <<< ((h.2.1 62 4) &&& 31))))
def dlH2 (h : zH) (A C : Nat) : zH := zsetI (dlH1 h A) 66 (upd ((dlH1 h A).2.1 66) C (h.2.1 66 C ||| ((1 : Int32) <<< (((dlH1 h A).2.1 62 3) &&& 31))))
def dlH3 (h : zH) (A C : Nat) : zH := zsetI (dlH2 h A C) 63 (upd ((dlH2 h A C).2.1 63) 1 ((dlH2 h A C).2.1 63 1 + 1))
set_option maxRecDepth 100000 in
theorem dlH_o {h : zH} {A C c : Nat} (h1 : c ≠ 66) (h2 : c ≠ 63) : (dlH3 h A C).2.1 c = h.2.1 c := by
  unfold dlH3 dlH2 dlH1
  rw [zs_nc h2, zs_nc h1, zs_nc h1]
def wl9 : Nat := 38441118147079956123060776829038355561892452140853476982784
set_option maxRecDepth 100000 in
theorem wl9_X {i : Nat} (h : Nat.testBit wX i = false) : Nat.testBit wl9 i = false := by
  have e : wl9 = Nat.land wX wl9 := by decide +kernel
  rw [e]
  show Nat.testBit (wX &&& wl9) i = false
  rw [Nat.testBit_and, h, Bool.false_and]
set_option maxRecDepth 100000 in
theorem wl9_1 : ∀ k, k < 6 → Nat.testBit wl9 (bun 1 k) = false := by decide +kernel
set_option maxRecDepth 100000 in
theorem wl9_63 : ∀ k, k < 4 → Nat.testBit wl9 (bun 63 k) = false := by decide +kernel
set_option maxRecDepth 100000 in
theorem wl9_a : ∀ c, c < 74 → (64 ≤ c ∧ c ≤ 68) ∨ (70 ≤ c ∧ c ≤ 73) → Nat.testBit wl9 (bun c 0) = false := by decide +kernel
set_option maxRecDepth 100000 in
theorem SM_l {h h' : zH} (hr : bRQ ctb wl9 h 0 0 h') : SM h h' := ⟨fun k hk => hr.2.2.2.1 63 k (wl9_63 k hk), fun c hc => funext fun k => hr.2.2.2.1 c k (by rw [(bun_a c (by omega)).1 k]; exact wl9_a c (by omega) hc)⟩
def pA2 : bLs := [some (.inr (.inl (.ref 62))), some (.inr (.inl (.ref 1)))]
def pA3 : bLs := [some (.inr (.inl (.ref 62))), some (.inr (.inl (.ref 1))), kvv 2]
set_option maxRecDepth 100000 in
theorem ll_seg : btz wl9 (60, smT) ctb (bfn 0 0 2 (bidl 2 0) [([], [], some (.inl (1, [])), [])]) 61 138 1000000 2 [] (2, [(0, 7), (0, 9999)], [], [(62, (3, []), mv 0), (62, (4, []), mv 1)], (0, []), (0, [])) 24 pA2 = true := by decide +kernel
set_option maxRecDepth 100000 in
theorem sl_seg : btz wl9 (60, smT) ctb (bfn 0 0 3 (bidl 3 0) [([], [], some (.inl (1, [])), [])]) 61 139 1000000 3 [] (3, [(0, 7), (0, 9999), (0, 11)], [], [(62, (3, []), mv 0), (62, (4, []), mv 1)], (0, []), (0, [])) 39 pA3 = true := by decide +kernel
section LD
variable {E : zE} {B F : Nat} {h0 h : zH} {L s : Nat} {σ : hSt}
set_option maxRecDepth 100000 in
theorem doorH {e A C : Nat} (hX : XL h0 L h e) (hR : RC h 63 69 σ) (hD : sD σ < 20) (hA : A < 12) (hC : C < 12) (hAC : A ≠ C) (k2 : (h.2.1 62 3).toInt = (A : Int)) (k3 : (h.2.1 62 4).toInt = (C : Int)) : XL h0 L (dlH3 h A C) e ∧ RC (dlH3 h A C) 63 69 ((sR σ, sD σ + 1, sP σ), sdl σ ++ [(A, C)], σ.2.2) := by
  obtain ⟨⟨q1, q2, q3⟩, q4, q5, q6, q7, q8, q9, q10⟩ := hR
  have g1 : bRQ ctb wX h0 0 0 (dlH1 h A) := bRQ_a hX.1 (by omega) (by rw [biv66]; exact bi32 _)
  have g2 : bRQ ctb wX h0 0 0 (dlH2 h A C) := bRQ_a g1 (by omega) (by rw [biv66]; exact bi32 _)
  have r1 : ((dlH2 h A C).2.1 63 1).toInt = (sD σ : Int) := by unfold dlH2 dlH1; rw [zs_ne (by decide), zs_ne (by decide)]; exact q2
  have r2 : ((dlH2 h A C).2.1 63 1 + 1).toInt = ((sD σ + 1 : Nat) : Int) := by rw [i32_add (by rw [r1, int1]; omega) (by rw [r1, int1]; omega), r1, int1]; omega
  have g3 : bRQ ctb wX h0 0 0 (dlH3 h A C) := bRQ_63 g2 (by decide) (by rw [r2, biv631]; exact ⟨by show (0 : Int) ≤ _; omega, by show _ ≤ (20 : Int); omega⟩)
  refine ⟨⟨g3, ct_x (ct_x (ct_x hX.2.1 (by decide)) (by decide)) (by decide), hX.2.2⟩, ⟨?_, ?_, ?_⟩, ?_, ?_, ?_, ?_, ?_, ?_, ?_⟩
  · unfold dlH3; rw [zs_at, upd_n (by decide)]; unfold dlH2 dlH1; rw [zs_ne (by decide), zs_ne (by decide)]; exact q1
  · unfold dlH3; rw [zs_at, upd_e]; exact r2
  · unfold dlH3; rw [zs_at, upd_n (by decide)]; unfold dlH2 dlH1; rw [zs_ne (by decide), zs_ne (by decide)]; exact q3
  · intro a ha
    show nbR ((dlH3 h A C).2.1 66 a) (sdl σ ++ [(A, C)]) a
    unfold dlH3
    rw [zs_ne (by decide)]
    unfold dlH2
    rw [zs_at]
    by_cases h1 : a = C
    · subst h1
      rw [upd_e]
      exact nb_2 (q4 a ha) hAC (by unfold dlH1; rw [zs_ne (by decide)]; exact k2) hA
    · rw [upd_n h1]
      unfold dlH1
      rw [zs_at]
      by_cases h2 : a = A
      · subst h2
        rw [upd_e]
        exact nb_1 (q4 a ha) hAC k3 hC
      · rw [upd_n h2]
        exact nb_3 (q4 a ha) h2 h1
  · show ∀ q, q < sP σ → ((dlH3 h A C).2.1 67 q).toInt = (ssl σ q : Int)
    rw [dlH_o (by decide) (by decide)]; exact q5
  · show ∀ q, q < sP σ → ∀ k, k < ssl σ q → ((dlH3 h A C).2.1 68 (12 * q + k)).toInt = (swk σ q k : Int)
    rw [dlH_o (by decide) (by decide)]; exact q6
  · show ∀ r, r < 12 → ((dlH3 h A C).2.1 70 r).toInt = spt σ r
    rw [dlH_o (by decide) (by decide)]; exact q7
  · show ∀ q, q < 8 → ((dlH3 h A C).2.1 71 q).toInt = spl σ q
    rw [dlH_o (by decide) (by decide)]; exact q8
  · show ∀ q, q < sP σ → ((dlH3 h A C).2.1 72 q).toInt = skp σ q
    rw [dlH_o (by decide) (by decide)]; exact q9
  · show ∀ q, q < 8 → ((dlH3 h A C).2.1 73 q).toInt = swt σ q
    rw [dlH_o (by decide) (by decide)]; exact q10
set_option maxRecDepth 100000 in
theorem doorE (hE : E.1 < 2147483648) (hsm : bSO E ctb B (60, smT)) (hb9 : ∀ i, 0 ≤ tp2 h0 i ∧ tp2 h0 i ≤ 255) (hF : 1000000 ≤ F) (hL4 : L ≤ 400) (hX : XL h0 L h s) (hR : RC h 63 69 σ) (hW : WF σ) :
    ∀ d f, 63 ≤ d → B + F * 903 ≤ f → lnC h0 L (doorq (tp2 h0) L σ s) (zex E f d 136 0 [some (.ref 62), some (.ref 1)] [] h) := by
  intro d f hd hf
  obtain ⟨d', hd'⟩ : ∃ d', d = d' + 1 := ⟨d - 1, by omega⟩
  obtain ⟨n, hn⟩ : ∃ n, f = n + 100 := ⟨f - 100, by omega⟩
  subst hd' hn
  obtain ⟨w1, w2, w3, w4, w5, w6⟩ := hW
  have hd0 := hR.1.2.1
  unfold doorq
  by_cases h20 : 20 ≤ sD σ
  · rw [if_pos h20]
    obtain ⟨e1, e2⟩ := xref hX hX.2.1.2.2.1 E (n + 86) d'
    exact ⟨_, dl_a (n := n + 90) (d := d') (by rw [hd0, int20b]; omega) (ha_1 hX.1) (ha_62 hX.1) (ha_63 hX.1) e1, e2⟩
  · rw [if_neg h20]
    have hlt : (h.2.1 63 1).toInt < (20 : Int32).toInt := by rw [hd0, int20b]; omega
    obtain ⟨h1, e1, x1, c1⟩ := xadv hE hsm hb9 hF hL4 hX d' (n + 93) (by omega) (by omega)
    have hR1 := RC_S hR (SM_C c1)
    have hcn : (h1.2.1 63 0).toInt = (sR σ : Int) := hR1.1.1
    have hcm : ((h1.2.1 63 0) - 1).toInt = (sR σ : Int) - 1 := by rw [i32_sub (by rw [hcn, int1]; omega) (by rw [hcn, int1]; omega), hcn, int1]
    have key := twoE hE hsm hb9 hF hL4 x1 (cn := h1.2.1 63 0) (cm := (h1.2.1 63 0) - 1) (by rw [hcn]; omega) d' (n + 82) (by omega) (by omega)
    rw [hcn, hcm] at key
    cases hq : twoq (tp2 h0) L (nxt (tp2 h0) L s) ((sR σ : Int) - 1) ((sR σ : Int) - 1) with
    | inr w =>
      rw [hq] at key
      obtain ⟨h2, e2, k2⟩ := key
      exact ⟨h2, dl_b0 (n := n + 79) (d := d') hlt (ha_1 hX.1) (ha_62 hX.1) (ha_63 hX.1) (ha_62 x1.1) (ha_63 x1.1) e1 e2, k2⟩
    | inl q9 =>
      obtain ⟨a, b, e⟩ := q9
      rw [hq] at key
      obtain ⟨h2, e2, x2, s2, k2, k3, k4⟩ := key
      obtain ⟨⟨b1, b2⟩, ⟨b3, b4⟩, -⟩ := twoq_b hq
      have hb := dl_b1 (n := n + 81) (d := d') hlt (ha_1 hX.1) (ha_62 hX.1) (ha_63 hX.1) (ha_62 x1.1) (ha_63 x1.1) e1 e2
      dsimp only
      by_cases hab : a = b
      · rw [if_pos hab]
        obtain ⟨r1, r2⟩ := xref x2 k4 E (n + 67) d'
        exact ⟨_, hb.trans (dl_c (n := n + 71) (d := d') (by rw [k2, k3, hab]) (ha_62 x2.1) r1), r2⟩
      · rw [if_neg hab]
        have ka : (h2.2.1 62 3).toInt = (a.toNat : Int) := by rw [k2]; omega
        have kb : (h2.2.1 62 4).toInt = (b.toNat : Int) := by rw [k3]; omega
        obtain ⟨z1, z2⟩ := doorH (A := a.toNat) (C := b.toNat) x2 (RC_S hR1 s2) (by omega) (by omega) (by omega) (by omega) ka kb
        exact ⟨dlH3 h2 a.toNat b.toNat, hb.trans (dl_d (n := n + 41) (d := d' + 1) (A := a.toNat) (B := b.toNat) (by rw [k2, k3]; omega) ka (by omega) rfl kb (by omega) (by rw [zs_at, upd_n (by omega)]) (ha_62 x2.1) (ha_63 x2.1) (x2.1.2.2.1 66 _ ks66 (by intro z; cases z))), z1, z2⟩
set_option maxRecDepth 100000 in
theorem loadE (hE : E.1 < 2147483648) (hsm : bSO E ctb B (60, smT)) (hb9 : ∀ i, 0 ≤ tp2 h0 i ∧ tp2 h0 i ≤ 255) (hF : 1000000 ≤ F) (hL4 : L ≤ 400) (hX : XL h0 L h s) (hR : RC h 63 69 σ) (hW : WF σ) :
    ∀ d f, 63 ≤ d → B + F * 903 ≤ f → lnC h0 L (loadq (tp2 h0) L σ s) (zex E f d 138 0 [some (.ref 62), some (.ref 1)] [] h) := by
  intro d f hd hf
  obtain ⟨d', hd'⟩ : ∃ d', d = d' + 1 := ⟨d - 1, by omega⟩
  obtain ⟨n, hn⟩ : ∃ n, f = n + 100 := ⟨f - 100, by omega⟩
  subst hd' hn
  obtain ⟨w1, w2, w3, w4, w5, w6⟩ := hW
  obtain ⟨h1, e1, x1, c1⟩ := xadv hE hsm hb9 hF hL4 hX d' (n + 98) (by omega) (by omega)
  have hR1 := RC_S hR (SM_C c1)
  have hcn : (h1.2.1 63 2).toInt = (sP σ : Int) := hR1.1.2.2
  have key := twoE hE hsm hb9 hF hL4 x1 (cn := h1.2.1 63 2) (cm := 9999) (by rw [hcn]; omega) d' (n + 91) (by omega) (by omega)
  rw [hcn, show (9999 : Int32).toInt = 9999 by decide] at key
  unfold loadq
  cases hq : twoq (tp2 h0) L (nxt (tp2 h0) L s) ((sP σ : Int) - 1) 9999 with
  | inr w =>
    rw [hq] at key
    obtain ⟨h2, e2, k2⟩ := key
    exact ⟨h2, ll_0 (n := n + 88) (d := d') (ha_1 hX.1) (ha_62 x1.1) (ha_63 x1.1) e1 e2, k2⟩
  | inl q9 =>
    obtain ⟨a, b, e⟩ := q9
    rw [hq] at key
    obtain ⟨h2, e2, x2, s2, k2, k3, k4⟩ := key
    obtain ⟨⟨b1, b2⟩, ⟨b3, b4⟩, -⟩ := twoq_b hq
    have hr2 : bRQ ctb wl9 h2 0 0 h2 := ⟨x2.1.1, x2.1.2.1, x2.1.2.2.1, fun _ _ _ => rfl, Nat.le_refl _, Nat.le_refl _⟩
    have sg := seg (Q := fun o => ∃ h', o = some (.inl (some (.int 1)), h') ∧ bRQ ctb wl9 h2 0 0 h') (V := [a, b]) (ca := 0) (sa := 0) (nv := 2) hE hsm (fin_n (V := [a, b]) (ca := 0) (sa := 0) rfl (fun u h' k1 k2 k3 => by
      cases u with
      | none => exact k2.elim
      | some u =>
        obtain ⟨x, y1, y2⟩ := k2
        have y3 : x.toInt = 1 := brel_k y2
        exact ⟨h', by rw [y1, zieq (y3.trans int1.symm)], k1⟩)) hr2 (benv_c b1 (by omega) (benv_c b3 b4 benv_n)) rfl bcs_n (bov_c (k := 3) rfl rfl rfl rfl (by unfold mv; rw [bvx_v]; exact k2) (bov_c (k := 4) rfl rfl rfl rfl (by unfold mv; rw [bvx_v]; exact k3) bov_n)) (show bLR [a, b] pA2 [some (.ref 62), some (.ref 1)] from ⟨⟨_, rfl, rfl⟩, ⟨_, rfl, rfl⟩, trivial⟩) ll_seg (Nat.le_refl B) (fun N hN => absurd hN List.not_mem_nil) (fun N hN => absurd hN List.not_mem_nil) (d' + 1) (n + 90) (by omega) (by omega)
    obtain ⟨h3, e3, r3⟩ := sg
    refine ⟨h3, (ll_1 (n := n + 90) (d := d') (ha_1 hX.1) (ha_62 x1.1) (ha_63 x1.1) e1 e2).trans e3, ⟨bRQ_tr x2.1 ⟨r3.1, r3.2.1, r3.2.2.1, fun c k z => r3.2.2.2.1 c k (wl9_X z), r3.2.2.2.2.1, r3.2.2.2.2.2⟩, ?_, x2.2.2⟩, RC_S hR1 (SM_t s2 (SM_l r3))⟩
    have t1 := x2.2.1
    unfold CT at t1 ⊢
    rw [r3.2.2.2.1 1 1 (wl9_1 1 (by decide)), r3.2.2.2.1 1 2 (wl9_1 2 (by decide)), r3.2.2.2.1 1 3 (wl9_1 3 (by decide)), r3.2.2.2.1 1 4 (wl9_1 4 (by decide)), r3.2.2.2.1 1 5 (wl9_1 5 (by decide))]
    exact t1
set_option maxRecDepth 100000 in
theorem sandE (hE : E.1 < 2147483648) (hsm : bSO E ctb B (60, smT)) (hb9 : ∀ i, 0 ≤ tp2 h0 i ∧ tp2 h0 i ≤ 255) (hF : 1000000 ≤ F) (hL4 : L ≤ 400) (hX : XL h0 L h s) (hR : RC h 63 69 σ) (hW : WF σ) {u2 : Option Value} :
    ∀ d f, 63 ≤ d → B + F * 903 ≤ f → lnC h0 L (sandq (tp2 h0) L σ s) (zex E f d 139 0 [some (.ref 62), some (.ref 1), u2] [] h) := by
  intro d f hd hf
  obtain ⟨d', hd'⟩ : ∃ d', d = d' + 1 := ⟨d - 1, by omega⟩
  obtain ⟨n, hn⟩ : ∃ n, f = n + 100 := ⟨f - 100, by omega⟩
  subst hd' hn
  obtain ⟨w1, w2, w3, w4, w5, w6⟩ := hW
  obtain ⟨h1, e1, x1, c1⟩ := xadv hE hsm hb9 hF hL4 hX d' (n + 98) (by omega) (by omega)
  have hR1 := RC_S hR (SM_C c1)
  have key0 := troomE hE hsm hb9 hF hL4 x1 (R := sR σ) hR1.1.1 (by omega) d' (n + 95) (by omega) (by omega)
  unfold sandq
  cases hq0 : nmq (tp2 h0) L (nxt (tp2 h0) L s) 0 ((sR σ : Int) - 1) with
  | none =>
    rw [hq0] at key0
    obtain ⟨h2, e2, k2⟩ := key0
    exact ⟨h2, sl9_0 (n := n + 92) (d := d') (ha_1 hX.1) (ha_62 x1.1) e1 e2, k2⟩
  | some v =>
    rw [hq0] at key0
    obtain ⟨h2, e2, x2, s2, k5, k6, -⟩ := key0
    have hv := nmq_b hq0
    have hR2 := RC_S hR1 s2
    have hcn : (h2.2.1 63 2).toInt = (sP σ : Int) := hR2.1.2.2
    have key := twoE hE hsm hb9 hF hL4 x2 (cn := h2.2.1 63 2) (cm := 9999) (by rw [hcn]; omega) d' (n + 84) (by omega) (by omega)
    rw [hcn, show (9999 : Int32).toInt = 9999 by decide] at key
    dsimp only
    cases hq : twoq (tp2 h0) L (nxt (tp2 h0) L (nxt (tp2 h0) L s)) ((sP σ : Int) - 1) 9999 with
    | inr w =>
      rw [hq] at key
      obtain ⟨h3, e3, k3⟩ := key
      exact ⟨h3, sl9_10 (n := n + 81) (d := d') (ha_1 hX.1) (ha_62 x1.1) (ha_62 x2.1) (ha_63 x2.1) e1 e2 e3, k3⟩
    | inl q9 =>
      obtain ⟨a, b, e⟩ := q9
      rw [hq] at key
      obtain ⟨h3, e3, x3, s3, k2, k3, k4⟩ := key
      obtain ⟨⟨b1, b2⟩, ⟨b3, b4⟩, -⟩ := twoq_b hq
      have hr2 : bRQ ctb wl9 h3 0 0 h3 := ⟨x3.1.1, x3.1.2.1, x3.1.2.2.1, fun _ _ _ => rfl, Nat.le_refl _, Nat.le_refl _⟩
      have sg := seg (Q := fun o => ∃ h', o = some (.inl (some (.int 1)), h') ∧ bRQ ctb wl9 h3 0 0 h') (V := [a, b, v]) (ca := 0) (sa := 0) (nv := 3) hE hsm (fin_n (V := [a, b, v]) (ca := 0) (sa := 0) rfl (fun u h' k1 k2 k3 => by
      cases u with
      | none => exact k2.elim
      | some u =>
        obtain ⟨x, y1, y2⟩ := k2
        have y3 : x.toInt = 1 := brel_k y2
        exact ⟨h', by rw [y1, zieq (y3.trans int1.symm)], k1⟩)) hr2 (benv_c b1 (by omega) (benv_c b3 b4 (benv_c hv.1 (by omega) benv_n))) rfl bcs_n (bov_c (k := 3) rfl rfl rfl rfl (by unfold mv; rw [bvx_v]; exact k2) (bov_c (k := 4) rfl rfl rfl rfl (by unfold mv; rw [bvx_v]; exact k3) bov_n)) (show bLR [a, b, v] pA3 [some (.ref 62), some (.ref 1), some (.int (h2.2.1 62 4))] from ⟨⟨_, rfl, rfl⟩, ⟨_, rfl, rfl⟩, ⟨_, rfl, _, rfl, by rw [k5]; exact brel_v rfl⟩, trivial⟩) sl_seg (Nat.le_refl B) (fun N hN => absurd hN List.not_mem_nil) (fun N hN => absurd hN List.not_mem_nil) (d' + 1) (n + 83) (by omega) (by omega)
      obtain ⟨h4, e4, r4⟩ := sg
      refine ⟨h4, (sl9_11 (n := n + 83) (d := d') (ha_1 hX.1) (ha_62 x1.1) (ha_62 x2.1) (ha_63 x2.1) e1 e2 e3).trans e4, ⟨bRQ_tr x3.1 ⟨r4.1, r4.2.1, r4.2.2.1, fun c k z => r4.2.2.2.1 c k (wl9_X z), r4.2.2.2.2.1, r4.2.2.2.2.2⟩, ?_, x3.2.2⟩, RC_S hR2 (SM_t s3 (SM_l r4))⟩
      have t1 := x3.2.1
      unfold CT at t1 ⊢
      rw [r4.2.2.2.1 1 1 (wl9_1 1 (by decide)), r4.2.2.2.1 1 2 (wl9_1 2 (by decide)), r4.2.2.2.1 1 3 (wl9_1 3 (by decide)), r4.2.2.2.1 1 4 (wl9_1 4 (by decide)), r4.2.2.2.1 1 5 (wl9_1 5 (by decide))]
      exact t1
end LD
