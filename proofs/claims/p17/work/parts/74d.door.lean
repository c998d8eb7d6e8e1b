/-! the model's reader of THE HOUSE: its lines, exactly (wip/zab2/c/geng15.py) -/
/-- quiet places of the model's row -/
def qx (K : Nat) : Prop := (∃ r, r < 12 ∧ K = 15 + 11 * r) ∨ ∃ p, p < 8 ∧ (K = 185 + 24 * p ∨ K = 186 + 24 * p ∨ K = 187 + 24 * p)
def kdP : Prop := False
def kdA : Prop := False
def kdK : Prop := True
def kdW : Prop := False
def RN (h : zH) (σ : hSt) : Prop := (kdP → ∀ r, r < 12 → (h.2.1 85 (15 + 11 * r)).toInt = spt σ r) ∧ ∀ p, p < 8 → (kdA → (h.2.1 85 (185 + 24 * p)).toInt = spl σ p) ∧ (kdK → p < sP σ → (h.2.1 85 (186 + 24 * p)).toInt = skp σ p) ∧ (kdW → (h.2.1 85 (187 + 24 * p)).toInt = swt σ p)
/-- what isn't told yet is 0; who there is, is in a place of the HABIT -/
def WZ (σ : hSt) : Prop := (kdP → ∀ r, sR σ ≤ r → r < 12 → spt σ r = 0) ∧ (∀ p, sP σ ≤ p → p < 8 → (kdA → spl σ p = 0) ∧ (kdW → swt σ p = 0)) ∧ ∀ p, p < sP σ → kdA → 0 ≤ spl σ p ∧ spl σ p < (ssl σ p : Int)
def QS (h h' : zH) : Prop := ∀ K, qx K → h'.2.1 85 K = h.2.1 85 K
set_option maxRecDepth 100000 in
theorem qx_b {K : Nat} (h : qx K) : 15 ≤ K ∧ K < 777 := by
  rcases h with ⟨r, r1, r2⟩ | ⟨p, p1, z | z | z⟩ <;> omega
set_option maxRecDepth 100000 in
theorem QS_r (h : zH) : QS h h := fun _ _ => rfl
set_option maxRecDepth 100000 in
theorem QS_w {h h' : zH} (k : RW h h') : QS h h' := fun K hK => k K (by have := qx_b hK; omega)
set_option maxRecDepth 100000 in
theorem QS_t {a b c : zH} (x : QS a b) (y : QS b c) : QS a c := fun K hK => (y K hK).trans (x K hK)
set_option maxRecDepth 100000 in
theorem QS_n {h : zH} {K : Nat} {y : Int32} (hK : ¬ qx K) : QS h (zsetI h 85 (upd (h.2.1 85) K y)) := fun K' h' => by
  rw [zs_at, upd_n (fun (z : K' = K) => hK (by rw [← z]; exact h'))]
set_option maxRecDepth 100000 in
theorem QS_o {h : zH} {c : Nat} {f : Nat → Int32} (hc : (85 : Nat) ≠ c) : QS h (zsetI h c f) := fun K _ => zs_ne hc
set_option maxRecDepth 100000 in
theorem RN_q {h h' : zH} {σ σ' : hSt} (q : QS h h') (s : σ'.2.2.2.2 = σ.2.2.2.2) (s0 : sP σ' = sP σ) (n : RN h σ) : RN h' σ' := by
  obtain ⟨x1, x2, x3, x4, y1, y2, y3, y4⟩ := σ
  obtain ⟨x5, x6, x7, x8, z1, z2, z3, z4⟩ := σ'
  have s : (z1, z2, z3, z4) = (y1, y2, y3, y4) := s
  obtain ⟨s1, s2, s3, s4⟩ : z1 = y1 ∧ z2 = y2 ∧ z3 = y3 ∧ z4 = y4 := by
    injection s with s1 s
    injection s with s2 s
    injection s with s3 s4
    exact ⟨s1, s2, s3, s4⟩
  subst s1 s2 s3 s4
  refine ⟨fun hc r hr => ?_, fun p hp => ⟨fun hc => ?_, fun hc hs => ?_, fun hc => ?_⟩⟩
  · rw [q _ (Or.inl ⟨r, hr, rfl⟩)]; exact n.1 hc r hr
  · rw [q _ (Or.inr ⟨p, hp, Or.inl rfl⟩)]; exact (n.2 p hp).1 hc
  · rw [q _ (Or.inr ⟨p, hp, Or.inr (Or.inl rfl)⟩)]; exact (n.2 p hp).2.1 hc (s0 ▸ hs)
  · rw [q _ (Or.inr ⟨p, hp, Or.inr (Or.inr rfl)⟩)]; exact (n.2 p hp).2.2 hc
def lnM (h : zH) (σ0 : hSt) (h0 : zH) (L : Nat) (r : (hSt × Nat) ⊕ Nat) (o : Option zR) : Prop := match r with
  | .inl (σ, e) => ∃ h' p b, o = some (.inl (some (.int 1)), h') ∧ YT h0 L h' p b ∧ sk isBl (tp90 h0) L p = e ∧ RM h' σ ∧ (RN h σ0 → WZ σ0 → RN h' σ)
  | .inr w => ∃ h' p, o = some (.inl (some (.int 0)), h') ∧ YT h0 L h' p w
set_option maxRecDepth 100000 in
theorem blam_h {W : Nat} {h0 h : zH} {a b : Nat} (hr : bRQ ctb W h0 a b h) : blam (h.2.1 85) := hr.1.2.1
set_option maxRecDepth 100000 in
theorem YT_85 {h0 h : zH} {L p b jn : Nat} {y : Int32} (ht : YT h0 L h p b) (hj : jn < 777 ∧ jn ≠ 3) (hb : (biv 85 jn).1 ≤ y.toInt ∧ y.toInt ≤ (biv 85 jn).2) (hl : blam (upd (h.2.1 85) jn y)) : YT h0 L (zsetI h 85 (upd (h.2.1 85) jn y)) p b := by
  obtain ⟨hr, ⟨t1, t2, t3⟩, hp, hb9, hx⟩ := ht
  exact ⟨bRQ_85 hr hj.1 hb hl, ⟨by rw [zs_ne (by decide)]; exact t1, by rw [zs_ne (by decide)]; exact t2, by rw [zs_ne (by decide)]; exact t3⟩, hp, hb9, XT_85 hj.2 hx⟩
set_option maxRecDepth 100000 in
theorem RM_n {h : zH} {σ : hSt} {K : Nat} {y : Int32} (hR : RM h σ) (hW : WF σ) (h1 : 3 ≤ K) (h2 : K < 145 ∨ 145 + 2 * sD σ ≤ K) (h3 : ∀ p, p < sP σ → K < 188 + 24 * p ∨ 201 + 24 * p ≤ K) : RM (zsetI h 85 (upd (h.2.1 85) K y)) σ := by
  obtain ⟨⟨r1, r2, r3⟩, r4, r5⟩ := hR
  have w2 := hW.2.1
  have w4 := hW.2.2.2.1
  have w6 := hW.2.2.2.2.2
  refine ⟨⟨by rw [zs_at, upd_n (by omega)]; exact r1, by rw [zs_at, upd_n (by omega)]; exact r2, by rw [zs_at, upd_n (by omega)]; exact r3⟩, fun i q hi => ?_, fun p hp => ?_⟩
  · have hl := (List.getElem?_eq_some_iff.mp hi).1
    rw [zs_at, zs_at, upd_n (by omega), upd_n (by omega)]
    exact r4 i q hi
  · have w7 := w6 p hp
    have k3 := h3 p hp
    rw [zs_at, upd_n (by omega)]
    refine ⟨(r5 p hp).1, fun i hi => ?_⟩
    rw [zs_at, upd_n (by omega)]
    exact (r5 p hp).2 i hi
set_option maxRecDepth 100000 in
theorem bd_room : ∀ r, r < 12 → biv 85 (13 + 11 * r) = (0, 4) ∧ biv 85 (14 + 11 * r) = (0, 99) ∧ biv 85 (15 + 11 * r) = (0, 100) ∧ ∀ j, j < 8 → biv 85 (16 + j + 11 * r) = (-2147483648, 2147483647) := by decide +kernel
set_option maxRecDepth 100000 in
theorem bd_door : ∀ i, i < 20 → biv 85 (145 + 2 * i) = (0, 11) ∧ biv 85 (146 + 2 * i) = (0, 11) := by decide +kernel
set_option maxRecDepth 100000 in
theorem bd_pers : ∀ q, q < 8 → biv 85 (185 + 24 * q) = (0, 11) ∧ biv 85 (186 + 24 * q) = (0, 100) ∧ biv 85 (187 + 24 * q) = (0, 99) ∧ biv 85 (188 + 24 * q) = (0, 12) ∧ (∀ j, j < 12 → biv 85 (189 + j + 24 * q) = (0, 11)) ∧ ∀ j, j < 8 → biv 85 (201 + j + 24 * q) = (-2147483648, 2147483647) := by decide +kernel
set_option maxRecDepth 100000 in
theorem bd_79 : biv 85 7 = (-2147483648, 2147483647) ∧ biv 85 9 = (-2147483648, 2147483647) ∧ biv 85 0 = (0, 12) ∧ biv 85 1 = (0, 20) ∧ biv 85 2 = (0, 8) := by decide +kernel
section ML
variable {E : zE} {B F : Nat} {h0 h : zH} {L p s : Nat} {σ : hSt}
set_option maxRecDepth 100000 in
theorem doorM (hE : E.1 < 2147483648) (hsm : bSO E ctb B (60, smT)) (hF : 1000000 ≤ F) (hL : L ≤ 400) (ht : YT h0 L h p s) (hk : sk isBl (tp90 h0) L p = nxt (tp90 h0) L s) (hR : RM h σ) (hW : WF σ) {u1 u2 u3 : Option Value} :
    ∀ d f, 65 ≤ d → B + F * 1000 ≤ f → lnM h σ h0 L (doorq (tp90 h0) L σ s) (zex E f d 248 0 [some (.ref 84), u1, u2, u3] [] h) := by
  intro d f hd hf
  obtain ⟨d', hd'⟩ : ∃ d', d = d' + 1 := ⟨d - 1, by omega⟩
  obtain ⟨n, hn⟩ : ∃ n, f = n + 100 := ⟨f - 100, by omega⟩
  subst hd' hn
  obtain ⟨w1, w2, w3, w4, w5, w6⟩ := id hW
  have a84 := b84_ha ht.1
  have a85 := b85_ha ht.1
  obtain ⟨⟨r1, r2, r3⟩, r4⟩ := id hR
  unfold doorq
  by_cases h20 : 20 ≤ sD σ
  · rw [if_pos h20]
    exact ⟨h, p, md_0 (n := n + 90) (d := d' + 1) rfl (by rw [r2, int20b]; omega) a84 a85, ht⟩
  · rw [if_neg h20]
    have hx : (h.2.1 85 1).toInt ≠ (20 : Int32).toInt := by rw [r2, int20b]; omega
    unfold twoq
    have st1 := fun f hf => y_room hE hsm hF hL ht r1 w1 d' f (by omega) hf
    rw [hk] at st1
    cases hn1 : nmq (tp90 h0) L (nxt (tp90 h0) L s) 0 ((sR σ : Int) - 1) with
    | none =>
      rw [hn1] at st1
      obtain ⟨y, h1, p1, e1, k1, t1, n1⟩ := st1 (n + 90) (by omega)
      have n1 : y.toInt = -1 := n1
      exact ⟨h1, p1, md_1 (n := n + 80) (d := d') rfl hx (by omega) a84 a85 e1, t1⟩
    | some v1 =>
      rw [hn1] at st1
      have b1 := nmq_b hn1
      dsimp only
      have st2 := fun (h1 : zH) (p1 : Nat) (k1 : RW h h1) (t1 : YT h0 L h1 p1 (nxt (tp90 h0) L s)) f hf => y_room hE hsm hF hL t1 (RM_w hR hW k1).1.1 w1 d' f (by omega) hf
      cases hn2 : nmq (tp90 h0) L (nxt (tp90 h0) L (nxt (tp90 h0) L s)) 0 ((sR σ : Int) - 1) with
      | none =>
        obtain ⟨y, h1, p1, e1, k1, t1, n1, n2⟩ := st1 (n + 90) (by omega)
        obtain ⟨y2, h2, p2, e2, k2, t2, n3⟩ := st2 h1 p1 k1 t1 (n + 85) (by omega)
        rw [n2, show sk isBl (tp90 h0) L (kE (tp90 h0) L (nxt (tp90 h0) L s)) = nxt (tp90 h0) L (nxt (tp90 h0) L s) from rfl] at t2 n3
        rw [hn2] at n3
        have n3 : y2.toInt = -1 := n3
        exact ⟨h2, p2, md_2 (n := n + 80) (d := d') rfl hx (by omega) (by omega) a84 a85 (b84_ha t1.1) e1 e2, t2⟩
      | some v2 =>
        have b2 := nmq_b hn2
        dsimp only
        by_cases hab : v1 = v2
        · rw [if_pos hab]
          obtain ⟨y, h1, p1, e1, k1, t1, n1, n2⟩ := st1 (n + 90) (by omega)
          obtain ⟨y2, h2, p2, e2, k2, t2, n3⟩ := st2 h1 p1 k1 t1 (n + 85) (by omega)
          rw [n2, show sk isBl (tp90 h0) L (kE (tp90 h0) L (nxt (tp90 h0) L s)) = nxt (tp90 h0) L (nxt (tp90 h0) L s) from rfl] at t2 n3
          rw [hn2] at n3
          exact ⟨h2, p2, md_3 (n := n + 77) (d := d') rfl hx (by omega) (by have := n3.1; omega) (by rw [n1, n3.1, hab]) a84 a85 (b84_ha t1.1) e1 e2, t2⟩
        · rw [if_neg hab]
          obtain ⟨y, h1, p1, e1, k1, t1, n1, n2⟩ := st1 (n + 90) (by omega)
          obtain ⟨y2, h2, p2, e2, k2, t2, n3⟩ := st2 h1 p1 k1 t1 (n + 85) (by omega)
          rw [n2, show sk isBl (tp90 h0) L (kE (tp90 h0) L (nxt (tp90 h0) L s)) = nxt (tp90 h0) L (nxt (tp90 h0) L s) from rfl] at t2 n3
          rw [hn2] at n3
          obtain ⟨n3, n4⟩ := n3
          have hR2 := RM_w hR hW (RW_t k1 k2)
          obtain ⟨j1, j2⟩ := door_i r2 (by omega)
          obtain ⟨d1, d2⟩ := bd_door (sD σ) (by omega)
          have q1 := YT_85 (y := y) t2 (jn := 145 + 2 * sD σ) (by omega) (by rw [d1]; exact ⟨by show (0 : Int) ≤ _; omega, by show _ ≤ (11 : Int); omega⟩) (blam_o (blam_h t2.1) (by omega) (fun p _ => by omega))
          have q2 := YT_85 (y := y2) q1 (jn := 146 + 2 * sD σ) (by omega) (by rw [d2]; exact ⟨by show (0 : Int) ≤ _; omega, by show _ ≤ (11 : Int); omega⟩) (blam_o (blam_h q1.1) (by omega) (fun p _ => by omega))
          have R1 := RM_n (y := y) (K := 145 + 2 * sD σ) hR2 hW (by omega) (by omega) (fun p _ => by omega)
          have R2 := RM_n (y := y2) (K := 146 + 2 * sD σ) R1 hW (by omega) (by omega) (fun p _ => by omega)
          have v0 : (zsetI (zsetI h2 85 (upd (h2.2.1 85) (145 + 2 * sD σ) y)) 85 (upd ((zsetI h2 85 (upd (h2.2.1 85) (145 + 2 * sD σ) y)).2.1 85) (146 + 2 * sD σ) y2)).2.1 85 (145 + 2 * sD σ) = y := by rw [zs_at, upd_n (by omega), zs_at, upd_e]
          have v1' : (zsetI (zsetI h2 85 (upd (h2.2.1 85) (145 + 2 * sD σ) y)) 85 (upd ((zsetI h2 85 (upd (h2.2.1 85) (145 + 2 * sD σ) y)).2.1 85) (146 + 2 * sD σ) y2)).2.1 85 (146 + 2 * sD σ) = y2 := by rw [zs_at, upd_e]
          have e3 := (md_4 (n := n + 79) (d := d') (u1 := u1) (u2 := u2) (u3 := u3) rfl hx (by omega) (by omega) (by rw [n1, n3]; exact hab) a84 a85 (b84_ha t1.1) e1 e2).trans (md_5 (n := n + 49) (d := d' + 1) (r := (zsetI (zsetI h2 85 (upd (h2.2.1 85) (145 + 2 * sD σ) y)) 85 (upd ((zsetI h2 85 (upd (h2.2.1 85) (145 + 2 * sD σ) y)).2.1 85) (146 + 2 * sD σ) y2)).2.1 85 1) j1 (by omega) j2 (by omega) rfl (b84_ha t2.1) (b85_ha t2.1))
          have Q2 : QS h (zsetI (zsetI h2 85 (upd (h2.2.1 85) (145 + 2 * sD σ) y)) 85 (upd ((zsetI h2 85 (upd (h2.2.1 85) (145 + 2 * sD σ) y)).2.1 85) (146 + 2 * sD σ) y2)) := QS_t (QS_w (RW_t k1 k2)) (QS_t (QS_n (by intro z; rcases z with ⟨r, r1, r2⟩ | ⟨p, p1, z | z | z⟩ <;> omega)) (QS_n (by intro z; rcases z with ⟨r, r1, r2⟩ | ⟨p, p1, z | z | z⟩ <;> omega)))
          generalize zsetI (zsetI h2 85 (upd (h2.2.1 85) (145 + 2 * sD σ) y)) 85 (upd ((zsetI h2 85 (upd (h2.2.1 85) (145 + 2 * sD σ) y)).2.1 85) (146 + 2 * sD σ) y2) = g at *
          obtain ⟨⟨g1, g2, g3⟩, g4, g5⟩ := R2
          have v3 : (g.2.1 85 1 + 1).toInt = ((sD σ + 1 : Nat) : Int) := by rw [i32_add (by rw [g2, int1]; omega) (by rw [g2, int1]; omega), g2, int1]; omega
          refine ⟨_, _, _, e3, YT_85 q2 (by decide) (by rw [bd_79.2.2.2.1, v3]; exact ⟨by show (0 : Int) ≤ _; omega, by show _ ≤ (20 : Int); omega⟩) (blam_o (blam_h q2.1) (by decide) (fun p _ => by omega)), by rw [n4]; rfl, ⟨⟨?_, ?_, ?_⟩, fun i q hi => ?_, fun q hq => ?_⟩, fun hN _ => RN_q (QS_t Q2 (QS_n (by intro z; rcases z with ⟨r, r1, r2⟩ | ⟨p, p1, z | z | z⟩ <;> omega))) rfl rfl hN⟩
          · rw [zs_at, upd_n (by decide)]; exact g1
          · rw [zs_at, upd_e]; exact v3
          · rw [zs_at, upd_n (by decide)]; exact g3
          · have hi : (sdl σ ++ [(v1.toNat, v2.toNat)])[i]? = some q := hi
            rw [zs_at, zs_at, upd_n (by omega), upd_n (by omega)]
            by_cases hlt : i < (sdl σ).length
            · rw [List.getElem?_append_left hlt] at hi
              exact g4 i q hi
            · rw [List.getElem?_append_right (by omega)] at hi
              have hl := (List.getElem?_eq_some_iff.mp hi).1
              have hi0 : i = (sdl σ).length := by
                have : i - (sdl σ).length < 1 := hl
                omega
              rw [hi0, Nat.sub_self] at hi
              have hq : q = (v1.toNat, v2.toNat) := (Option.some.inj hi).symm
              subst hq
              rw [hi0, w4, v0, v1']
              exact ⟨by show y.toInt = ((v1.toNat : Nat) : Int); omega, by show y2.toInt = ((v2.toNat : Nat) : Int); omega⟩
          · rw [zs_at, upd_n (by omega)]
            refine ⟨(g5 q hq).1, fun i hi => ?_⟩
            rw [zs_at, upd_n (by omega)]
            exact (g5 q hq).2 i hi
end ML
