/-! the class's reader of THE HOUSE: a person (wip/zab2/c/geng8.py) -/
def perS (σ : hSt) (n : Nat) (w : Nat → Nat) : hSt := ((sR σ, sD σ, sP σ + 1), sdl σ, (fun p => if p = sP σ then n else ssl σ p), (fun p => if p = sP σ then w else swk σ p), spt σ, spl σ, (fun p => if p = sP σ then 100 else skp σ p), swt σ)
def perR (σ : hSt) (r : (Nat × (Nat → Nat) × Nat) ⊕ Nat) : (hSt × Nat) ⊕ Nat := match r with
  | .inr w => .inr w
  | .inl (n, w, e) => .inl (perS σ n w, e)
set_option maxRecDepth 100000 in
theorem perq_R {T : Nat → Int} {L s : Nat} {σ : hSt} : perq T L σ s = if 8 ≤ sP σ then .inr s else perR σ (hbq T L (sR σ) (sdl σ) 13 0 0 0 (fun _ => 0) (nxt T L s)) := rfl
set_option maxRecDepth 100000 in
theorem i96 : ∀ p, p < 8 → ∀ k, k < 12 → (Int32.ofNat p * 12 + Int32.ofNat k).toInt = ((12 * p + k : Nat) : Int) := by decide +kernel
set_option maxRecDepth 100000 in
theorem int100 : (100 : Int32).toInt = 100 := by decide
set_option maxRecDepth 100000 in
theorem int8 : (8 : Int32).toInt = 8 := by decide
def plH1 (h : zH) (P : Nat) (k : Int32) : zH := zsetI h 67 (upd (h.2.1 67) P k)
def plH2 (h : zH) (P : Nat) (k : Int32) : zH := zsetI (plH1 h P k) 72 (upd ((plH1 h P k).2.1 72) P 100)
def plH3 (h : zH) (P : Nat) (k : Int32) : zH := zsetI (plH2 h P k) 63 (upd ((plH2 h P k).2.1 63) 2 ((plH2 h P k).2.1 63 2 + 1))
set_option maxRecDepth 100000 in
theorem plH_o {h : zH} {P c : Nat} {k : Int32} (h1 : c ≠ 67) (h2 : c ≠ 72) (h3 : c ≠ 63) : (plH3 h P k).2.1 c = h.2.1 c := by
  unfold plH3 plH2 plH1
  rw [zs_nc h3, zs_nc h2, zs_nc h1]
section PE
variable {E : zE} {B F : Nat} {h0 h : zH} {L s : Nat} {σ : hSt}
set_option maxRecDepth 100000 in
theorem perJ {e n : Nat} {k : Int32} {w : Nat → Nat} (hX : XL h0 L h e) (hR : RC h 63 69 σ) (hW : WF σ) (hP : sP σ < 8) (hk : k.toInt = (n : Int)) (hn : n ≤ 12) (hw : ∀ i, i < n → (h.2.1 68 (12 * sP σ + i)).toInt = (w i : Int)) : XL h0 L (plH3 h (sP σ) k) e ∧ RC (plH3 h (sP σ) k) 63 69 (perS σ n w) := by
  obtain ⟨⟨q1, q2, q3⟩, q4, q5, q6, q7, q8, q9, q10⟩ := hR
  have g1 : bRQ ctb wX h0 0 0 (plH1 h (sP σ) k) := bRQ_a hX.1 (by omega) (by rw [biv67, hk]; exact ⟨by show (0 : Int) ≤ _; omega, by show _ ≤ (12 : Int); omega⟩)
  have g2 : bRQ ctb wX h0 0 0 (plH2 h (sP σ) k) := bRQ_a g1 (by omega) (by rw [biv72, int100]; exact ⟨by decide, by decide⟩)
  have r1 : ((plH2 h (sP σ) k).2.1 63 2).toInt = (sP σ : Int) := by unfold plH2 plH1; rw [zs_ne (by decide), zs_ne (by decide)]; exact q3
  have r2 : ((plH2 h (sP σ) k).2.1 63 2 + 1).toInt = ((sP σ + 1 : Nat) : Int) := by rw [i32_add (by rw [r1, int1]; omega) (by rw [r1, int1]; omega), r1, int1]; omega
  have g3 : bRQ ctb wX h0 0 0 (plH3 h (sP σ) k) := bRQ_63 g2 (by decide) (by rw [r2, biv632]; exact ⟨by show (0 : Int) ≤ _; omega, by show _ ≤ (8 : Int); omega⟩)
  refine ⟨⟨g3, ct_x (ct_x (ct_x hX.2.1 (by decide)) (by decide)) (by decide), hX.2.2⟩, ⟨?_, ?_, ?_⟩, ?_, ?_, ?_, ?_, ?_, ?_, ?_⟩
  · unfold plH3; rw [zs_at, upd_n (by decide)]; unfold plH2 plH1; rw [zs_ne (by decide), zs_ne (by decide)]; exact q1
  · unfold plH3; rw [zs_at, upd_n (by decide)]; unfold plH2 plH1; rw [zs_ne (by decide), zs_ne (by decide)]; exact q2
  · unfold plH3; rw [zs_at, upd_e]; exact r2
  · show ∀ a, a < 12 → nbR ((plH3 h (sP σ) k).2.1 66 a) (sdl σ) a
    rw [plH_o (by decide) (by decide) (by decide)]; exact q4
  · intro q hq
    have hq : q < sP σ + 1 := hq
    show ((plH3 h (sP σ) k).2.1 67 q).toInt = ((if q = sP σ then n else ssl σ q : Nat) : Int)
    unfold plH3 plH2 plH1
    rw [zs_ne (by decide), zs_ne (by decide), zs_at]
    by_cases hz : q = sP σ
    · rw [hz, upd_e, if_pos rfl]; exact hk
    · rw [upd_n hz, if_neg hz]; exact q5 q (by omega)
  · intro q hq i hi
    have hq : q < sP σ + 1 := hq
    have hi : i < (if q = sP σ then n else ssl σ q) := hi
    show ((plH3 h (sP σ) k).2.1 68 (12 * q + i)).toInt = (((if q = sP σ then w else swk σ q) i : Nat) : Int)
    rw [plH_o (by decide) (by decide) (by decide)]
    by_cases hz : q = sP σ
    · rw [if_pos hz] at hi ⊢
      rw [hz]; exact hw i hi
    · rw [if_neg hz] at hi ⊢
      exact q6 q (by omega) i hi
  · show ∀ r, r < 12 → ((plH3 h (sP σ) k).2.1 70 r).toInt = spt σ r
    rw [plH_o (by decide) (by decide) (by decide)]; exact q7
  · intro q hq
    show ((plH3 h (sP σ) k).2.1 71 q).toInt = spl σ q
    rw [plH_o (by decide) (by decide) (by decide)]; exact q8 q hq
  · intro q hq
    have hq : q < sP σ + 1 := hq
    show ((plH3 h (sP σ) k).2.1 72 q).toInt = if q = sP σ then 100 else skp σ q
    unfold plH3 plH2
    rw [zs_ne (by decide), zs_at]
    by_cases hz : q = sP σ
    · rw [hz, upd_e, if_pos rfl]; exact int100
    · rw [upd_n hz, if_neg hz]; unfold plH1; rw [zs_ne (by decide)]; exact q9 q (by omega)
  · intro q hq
    show ((plH3 h (sP σ) k).2.1 73 q).toInt = swt σ q
    rw [plH_o (by decide) (by decide) (by decide)]; exact q10 q hq
set_option maxRecDepth 100000 in
theorem ha_66 {W : Nat} {h0 h : zH} {a b : Nat} (hr : bRQ ctb W h0 a b h) : zat h.1 66 = some (.inl (0, 12, [])) := hr.2.2.1 66 _ ks66 (by intro z; cases z)
set_option maxRecDepth 100000 in
theorem perL (hE : E.1 < 2147483648) (hsm : bSO E ctb B (60, smT)) (hb9 : ∀ i, 0 ≤ tp2 h0 i ∧ tp2 h0 i ≤ 255) (hF : 1000000 ≤ F) (hL4 : L ≤ 400) (hW : WF σ) (hP : sP σ < 8) : ∀ (n k fi la : Nat) (w : Nat → Nat) (s : Nat) (h : zH) (p9 k9 fi9 la9 : Int32), k + n = 13 → k ≤ 12 → p9.toInt = (sP σ : Int) → k9.toInt = (k : Int) → fi9.toInt = (fi : Int) → la9.toInt = (la : Int) → (k ≠ 0 → fi < sR σ ∧ la < sR σ) → XL h0 L h s → RC h 63 69 σ → (∀ i, i < k → (h.2.1 68 (12 * sP σ + i)).toInt = (w i : Int)) →
    ∀ d f, 64 ≤ d → B + F * 1000 * (n + 1) ≤ f → lnC h0 L (perR σ (hbq (tp2 h0) L (sR σ) (sdl σ) n k fi la w s)) (zex E f d 137 35 [some (.ref 62), some (.ref 1), some (.int p9), some (.int k9), some (.int fi9), some (.int la9)] [] h) := by
  intro n
  induction n with
  | zero => intro k fi la w s h p9 k9 fi9 la9 hkn hk; omega
  | succ n IH =>
    intro k fi la w s h p9 k9 fi9 la9 hkn hk hp9 hk9 hfi9 hla9 hfl hX hR hw d f hd hf
    have hmul : F * 1000 * (n + 1 + 1) = F * 1000 * (n + 1) + F * 1000 := Nat.mul_succ (F * 1000) (n + 1)
    obtain ⟨d', hd'⟩ : ∃ d', d = d' + 1 := ⟨d - 1, by omega⟩
    obtain ⟨g, hg⟩ : ∃ g, f = g + 200 := ⟨f - 200, by omega⟩
    subst hd' hg
    have w1 := hW.1
    unfold hbq
    by_cases h12 : 12 ≤ k
    · rw [if_pos h12]
      obtain ⟨e1, e2⟩ := xref hX hX.2.1.2.2.1 E (g + 188) d'
      exact ⟨_, lp_a (n := g + 192) (d := d') (by rw [hk9, int12]; omega) (ha_1 hX.1) (ha_62 hX.1) e1, e2⟩
    · rw [if_neg h12]
      have hklt : k9.toInt < (12 : Int32).toInt := by rw [hk9, int12]; omega
      have key := troomE hE hsm hb9 hF hL4 hX (R := sR σ) hR.1.1 (by omega) d' (g + 194) (by omega) (by omega)
      cases hq : nmq (tp2 h0) L s 0 ((sR σ : Int) - 1) with
      | none =>
        rw [hq] at key
        obtain ⟨h1, e1, k1⟩ := key
        exact ⟨h1, lp_b (n := g + 191) (d := d') hklt (ha_62 hX.1) e1, k1⟩
      | some v =>
        rw [hq] at key
        obtain ⟨h1, e1, x1, s1, k4, k5, k6⟩ := key
        have hv := nmq_b hq
        have hR1 := RC_S hR s1
        have hv9 : (h1.2.1 62 4).toInt = (v.toNat : Int) := by rw [k4]; omega
        have hvR : v.toNat < sR σ := by omega
        have a66 := ha_66 x1.1
        -- behind the number
        have at98 : ∀ (fi' : Nat) (fi9' la9' : Int32), fi9'.toInt = (fi' : Int) → fi' < sR σ → ∀ f1, B + F * 1000 * (n + 1) + 200 ≤ f1 →
            lnC h0 L (perR σ (if kK (tp2 h0) L (nxt (tp2 h0) L s) = 1 then hbq (tp2 h0) L (sR σ) (sdl σ) n (k + 1) fi' v.toNat (fun i => if i = k then v.toNat else w i) (nxt (tp2 h0) L s) else if lead (sdl σ) v.toNat fi' = true then .inl (k + 1, (fun i => if i = k then v.toNat else w i), nxt (tp2 h0) L s) else .inr s)) (zex E f1 (d' + 1) 137 98 [some (.ref 62), some (.ref 1), some (.int p9), some (.int k9), some (.int fi9'), some (.int la9')] [] h1) := by
          intro fi' fi9' la9' hfi' hfR f1 hf1
          obtain ⟨g1, hg1⟩ : ∃ g1, f1 = g1 + 100 := ⟨f1 - 100, by omega⟩
          subst hg1
          have hI : (p9 * 12 + k9).toInt = ((12 * sP σ + k : Nat) : Int) := by rw [i32_nat hp9, i32_nat hk9]; exact i96 _ hP _ (by omega)
          have x2 : XL h0 L (zsetI h1 68 (upd (h1.2.1 68) (12 * sP σ + k) (h1.2.1 62 4))) (nxt (tp2 h0) L s) := ⟨bRQ_a x1.1 (by omega) (by rw [biv68, hv9]; exact ⟨by show (0 : Int) ≤ _; omega, by show _ ≤ (11 : Int); omega⟩), ct_x x1.2.1 (by decide), x1.2.2⟩
          have hR2 : RC (zsetI h1 68 (upd (h1.2.1 68) (12 * sP σ + k) (h1.2.1 62 4))) 63 69 σ := by
            obtain ⟨⟨q1, q2, q3⟩, q4, q5, q6, q7, q8, q9, q10⟩ := hR1
            refine ⟨⟨?_, ?_, ?_⟩, ?_, ?_, ?_, ?_, ?_, ?_, ?_⟩
            · rw [zs_ne (by decide)]; exact q1
            · rw [zs_ne (by decide)]; exact q2
            · rw [zs_ne (by decide)]; exact q3
            · intro q hq; rw [zs_ne (by decide)]; exact q4 q hq
            · intro q hq; rw [zs_ne (by decide)]; exact q5 q hq
            · intro q hq i hi
              have hle : ssl σ q ≤ 12 := hW.2.2.2.2.2 q hq
              show ((zsetI h1 68 (upd (h1.2.1 68) (12 * sP σ + k) (h1.2.1 62 4))).2.1 68 (12 * q + i)).toInt = _
              rw [zs_at, upd_n (by omega)]
              exact q6 q hq i hi
            · intro q hq; rw [zs_ne (by decide)]; exact q7 q hq
            · intro q hq; rw [zs_ne (by decide)]; exact q8 q hq
            · intro q hq; rw [zs_ne (by decide)]; exact q9 q hq
            · intro q hq; rw [zs_ne (by decide)]; exact q10 q hq
          have hw2 : ∀ i, i < k + 1 → ((zsetI h1 68 (upd (h1.2.1 68) (12 * sP σ + k) (h1.2.1 62 4))).2.1 68 (12 * sP σ + i)).toInt = ((if i = k then v.toNat else w i : Nat) : Int) := by
            intro i hi
            rw [zs_at]
            by_cases hz : i = k
            · rw [hz, upd_e, if_pos rfl]; exact hv9
            · rw [upd_n (by omega), if_neg hz, s1.2 68 (by omega)]; exact hw i (by omega)
          have hkk : (k9 + 1).toInt = ((k + 1 : Nat) : Int) := by rw [i32_add (by rw [hk9, int1]; omega) (by rw [hk9, int1]; omega), hk9, int1]; omega
          have hkind : ((zsetI h1 68 (upd (h1.2.1 68) (12 * sP σ + k) (h1.2.1 62 4))).2.1 1 2).toInt = (kK (tp2 h0) L (nxt (tp2 h0) L s) : Int) := x2.2.1.2.1
          by_cases hkd : kK (tp2 h0) L (nxt (tp2 h0) L s) = 1
          · rw [if_pos hkd, lp_f (n := g1 + 81) (d := d' + 1) (I := 12 * sP σ + k) hI (by omega) (by rw [hkind, hkd, int1]; rfl) (ha_1 x1.1) (ha_62 x1.1) (ha_63 x1.1) (x1.1.2.2.1 68 _ ks68 (by intro z; cases z))]
            exact IH (k + 1) fi' v.toNat _ _ _ p9 (k9 + 1) fi9' (h1.2.1 62 4) (by omega) (by omega) hp9 hkk hfi' hv9 (fun _ => ⟨hfR, hvR⟩) x2 hR2 hw2 (d' + 1) (g1 + 81) hd (by omega)
          · rw [if_neg hkd, lp_g (n := g1 + 81) (d := d' + 1) (I := 12 * sP σ + k) hI (by omega) (by rw [hkind, int1]; omega) (ha_1 x1.1) (ha_62 x1.1) (ha_63 x1.1) (x1.1.2.2.1 68 _ ks68 (by intro z; cases z))]
            have ld := leadE (h := zsetI h1 68 (upd (h1.2.1 68) (12 * sP σ + k) (h1.2.1 62 4))) hR2.2.1 (ha_63 x2.1) (ha_66 x2.1) hv9 (by omega) hfi' (by omega) E (g1 + 56) d'
            by_cases hl : lead (sdl σ) v.toNat fi' = true
            · rw [if_pos hl] at ld
              rw [if_pos hl]
              obtain ⟨z1, z2⟩ := perJ (n := k + 1) (k := k9 + 1) x2 hR2 hW hP hkk (by omega) hw2
              exact ⟨plH3 _ (sP σ) (k9 + 1), (lp_i (n := g1 + 75) (d := d') (ha_62 x2.1) (ha_63 x2.1) ld).trans (lp_j (n := g1 + 54) (d := d' + 1) (P := sP σ) hp9 hP (ha_62 x2.1) (ha_63 x2.1) (x2.1.2.2.1 67 _ ks67 (by intro z; cases z)) (ha_69 x2.1) (x2.1.2.2.1 72 _ ks72 (by intro z; cases z))), z1, z2⟩
            · rw [if_neg hl] at ld
              rw [if_neg hl]
              obtain ⟨r1, r2⟩ := xref x2 (at9 := (zsetI h1 68 (upd (h1.2.1 68) (12 * sP σ + k) (h1.2.1 62 4))).2.1 62 5) (by rw [zs_ne (by decide)]; exact k5) E (g1 + 66) d'
              exact ⟨_, lp_h (n := g1 + 70) (d := d') (ha_62 x2.1) (ha_63 x2.1) ld r1, r2⟩
        dsimp only
        by_cases hk0 : k = 0
        · rw [if_neg (fun z => z.1 hk0), if_pos hk0]
          rw [lp_c (n := g + 187) (d := d') hklt (by rw [hk9]; omega) (ha_62 hX.1) (ha_62 x1.1) e1]
          exact at98 v.toNat (h1.2.1 62 4) la9 hv9 hvR (g + 187) (by omega)
        · obtain ⟨hfR, hlR⟩ := hfl hk0
          have ld := leadE hR1.2.1 (ha_63 x1.1) a66 hla9 (by omega) hv9 (by omega) E (g + 165) d'
          have hkn0 : k9.toInt ≠ 0 := by rw [hk9]; omega
          by_cases hl : lead (sdl σ) la v.toNat = false
          · rw [if_neg (by rw [hl]; decide)] at ld
            rw [if_pos ⟨hk0, hl⟩]
            obtain ⟨r1, r2⟩ := xref x1 k5 E (g + 175) d'
            exact ⟨_, lp_d (n := g + 179) (d := d') hklt hkn0 (ha_62 hX.1) (ha_62 x1.1) (ha_63 x1.1) e1 ld r1, r2⟩
          · have hl1 : lead (sdl σ) la v.toNat = true := by
              cases hz : lead (sdl σ) la v.toNat with
              | true => rfl
              | false => exact absurd hz hl
            rw [if_pos hl1] at ld
            rw [if_neg (fun z => hl z.2), if_neg hk0]
            rw [lp_e (n := g + 184) (d := d') hklt hkn0 (ha_62 hX.1) (ha_62 x1.1) (ha_63 x1.1) e1 ld]
            exact at98 fi fi9 la9 hfi9 hfR (g + 184) (by omega)
set_option maxRecDepth 100000 in
theorem personE (hE : E.1 < 2147483648) (hsm : bSO E ctb B (60, smT)) (hb9 : ∀ i, 0 ≤ tp2 h0 i ∧ tp2 h0 i ≤ 255) (hF : 1000000 ≤ F) (hL4 : L ≤ 400) (hX : XL h0 L h s) (hR : RC h 63 69 σ) (hW : WF σ) {u2 u3 u4 u5 : Option Value} :
    ∀ d f, 64 ≤ d → B + F * 15000 ≤ f → lnC h0 L (perq (tp2 h0) L σ s) (zex E f d 137 0 [some (.ref 62), some (.ref 1), u2, u3, u4, u5] [] h) := by
  intro d f hd hf
  obtain ⟨d', hd'⟩ : ∃ d', d = d' + 1 := ⟨d - 1, by omega⟩
  obtain ⟨n, hn⟩ : ∃ n, f = n + 100 := ⟨f - 100, by omega⟩
  subst hd' hn
  have hp0 := hR.1.2.2
  rw [perq_R]
  by_cases h8 : 8 ≤ sP σ
  · rw [if_pos h8]
    obtain ⟨e1, e2⟩ := xref hX hX.2.1.2.2.1 E (n + 84) d'
    exact ⟨_, pl_a (n := n + 88) (d := d') (by rw [hp0, int8]; omega) (ha_1 hX.1) (ha_62 hX.1) (ha_63 hX.1) e1, e2⟩
  · rw [if_neg h8]
    obtain ⟨h1, e1, x1, c1⟩ := xadv hE hsm hb9 hF hL4 hX d' (n + 91) (by omega) (by omega)
    rw [pl_b (n := n + 85) (d := d') (by rw [hp0, int8]; omega) (ha_1 hX.1) (ha_62 hX.1) (ha_63 hX.1) e1]
    have hR1 := RC_S hR (SM_C c1)
    exact perL hE hsm hb9 hF hL4 hW (by omega) 13 0 0 0 _ _ h1 (h.2.1 63 2) 0 0 0 rfl (by decide) hp0 zi0 zi0 zi0 (fun z => absurd rfl z) x1 hR1 (fun i hi => absurd hi (Nat.not_lt_zero _)) (d' + 1) (n + 85) hd (by omega)
end PE
