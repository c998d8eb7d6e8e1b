/-! the model's reader of THE HOUSE: clog, room (wip/zab2/c/geng17.py) -/
set_option maxRecDepth 100000 in
theorem int11 : (11 : Int32).toInt = 11 := by decide
set_option maxRecDepth 100000 in
theorem int99 : (99 : Int32).toInt = 99 := by decide
def RZ (h h' : zH) : Prop := h'.1 = h.1 ∧ (∀ c, c ≠ 85 → h'.2.1 c = h.2.1 c) ∧ ∀ i, (i < 13 ∨ 145 ≤ i) → h'.2.1 85 i = h.2.1 85 i
set_option maxRecDepth 100000 in
theorem RZ_r (h : zH) : RZ h h := ⟨rfl, fun _ _ => rfl, fun _ _ => rfl⟩
set_option maxRecDepth 100000 in
theorem RZ_t {a b c : zH} (h1 : RZ a b) (h2 : RZ b c) : RZ a c := ⟨h2.1.trans h1.1, fun d hd => (h2.2.1 d hd).trans (h1.2.1 d hd), fun i hi => (h2.2.2 i hi).trans (h1.2.2 i hi)⟩
set_option maxRecDepth 100000 in
theorem RZ_s {h : zH} {K : Nat} {y : Int32} (hK : 13 ≤ K ∧ K < 145) : RZ h (zsetI h 85 (upd (h.2.1 85) K y)) := ⟨rfl, fun c hc => zs_nc hc, fun i hi => by rw [zs_at, upd_n (by omega)]⟩
set_option maxRecDepth 100000 in
theorem w275_Y : Nat.land wY sc275.2.1 = sc275.2.1 := by decide +kernel
set_option maxRecDepth 100000 in
theorem w275_f {i : Nat} (h : Nat.testBit wY i = false) : Nat.testBit sc275.2.1 i = false := by
  rw [← w275_Y]
  show Nat.testBit (wY &&& sc275.2.1) i = false
  rw [Nat.testBit_and, h, Bool.false_and]
set_option maxRecDepth 100000 in
theorem RN_room {h h2 h9 : zH} {σ : hSt} (q : QS h h2) (hR : sR σ < 12) (x15 : h9.2.1 85 (15 + 11 * sR σ) = 0) (xo : ∀ K, qx K → K ≠ 15 + 11 * sR σ → h9.2.1 85 K = h2.2.1 85 K) (hZ : WZ σ) (n : RN h σ) {n1 : Nat} : RN h9 ((n1, sD σ, sP σ), σ.2) := by
  refine ⟨fun hc r hr => ?_, fun p hp => ⟨fun hc => ?_, fun hc hs => ?_, fun hc => ?_⟩⟩
  · show _ = spt σ r
    by_cases hrR : r = sR σ
    · rw [hrR, x15, hZ.1 hc (sR σ) (Nat.le_refl _) hR]; rfl
    · rw [xo _ (Or.inl ⟨r, hr, rfl⟩) (by omega), q _ (Or.inl ⟨r, hr, rfl⟩)]; exact n.1 hc r hr
  · rw [xo _ (Or.inr ⟨p, hp, Or.inl rfl⟩) (by omega), q _ (Or.inr ⟨p, hp, Or.inl rfl⟩)]; exact (n.2 p hp).1 hc
  · rw [xo _ (Or.inr ⟨p, hp, Or.inr (Or.inl rfl)⟩) (by omega), q _ (Or.inr ⟨p, hp, Or.inr (Or.inl rfl)⟩)]; exact (n.2 p hp).2.1 hc hs
  · rw [xo _ (Or.inr ⟨p, hp, Or.inr (Or.inr rfl)⟩) (by omega), q _ (Or.inr ⟨p, hp, Or.inr (Or.inr rfl)⟩)]; exact (n.2 p hp).2.2 hc
section MR
variable {E : zE} {B F : Nat} {h0 h : zH} {L p s : Nat} {σ : hSt}
set_option maxRecDepth 100000 in
theorem clogM (hE : E.1 < 2147483648) (hsm : bSO E ctb B (60, smT)) (hF : 1000000 ≤ F) (hL : L ≤ 400) (ht : YT h0 L h p s) (hk : sk isBl (tp90 h0) L p = nxt (tp90 h0) L s) (hR : RM h σ) (hW : WF σ) :
    ∀ d f, 65 ≤ d → B + F * 1000 ≤ f → lnM h σ h0 L (clogq (tp90 h0) L σ s) (zex E f d 254 129 [some (.ref 84)] [] h) := by
  intro d f hd hf
  obtain ⟨d', hd'⟩ : ∃ d', d = d' + 1 := ⟨d - 1, by omega⟩
  obtain ⟨n, hn⟩ : ∃ n, f = n + 100 := ⟨f - 100, by omega⟩
  subst hd' hn
  obtain ⟨w1, w2, w3, w4, w5, w6⟩ := id hW
  have a84 := b84_ha ht.1
  have a85 := b85_ha ht.1
  unfold clogq
  have st1 := fun f hf => y_numc hE hsm hF hL ht (x1 := 0) (x2 := 99999) zi0 int99999 (by decide) d' f (by omega) hf
  rw [hk] at st1
  have hy : ∀ (h1 : zH) (y : Int32), (zsetI h1 85 (upd (h1.2.1 85) 9 y)).2.1 85 9 = y := fun h1 y => by rw [zs_at, upd_e]
  have wr : ∀ {h1 : zH} {p1 : Nat} (y : Int32), YT h0 L h1 p1 (nxt (tp90 h0) L s) → YT h0 L (zsetI h1 85 (upd (h1.2.1 85) 9 y)) p1 (nxt (tp90 h0) L s) := fun {h1 p1} y t1 => YT_85 t1 (by decide) (by rw [bd_79.2.1]; exact bi32 y) (blam_o (blam_h t1.1) (by decide) (fun p _ => by omega))
  cases hn1 : nmq (tp90 h0) L (nxt (tp90 h0) L s) 0 99999 with
  | none =>
    rw [hn1] at st1
    obtain ⟨y, h1, p1, e1, k1, t1, n1⟩ := st1 (n + 93) (by omega)
    have n1 : y.toInt = -1 := n1
    exact ⟨_, p1, mh_cl0 (n := n + 85) (d := d') (hy h1 y) (by omega) (b84_ha ht.1) (b84_ha t1.1) (b85_ha t1.1) e1, wr y t1⟩
  | some v1 =>
    rw [hn1] at st1
    have b1 := nmq_b hn1
    obtain ⟨y, h1, p1, e1, k1, t1, n1, n2⟩ := st1 (n + 93) (by omega)
    exact ⟨_, p1, _, mh_cl1 (n := n + 84) (d := d') (hy h1 y) (by omega) (b84_ha ht.1) (b84_ha t1.1) (b85_ha t1.1) e1, wr y t1, by rw [n2]; rfl, RM_n (RM_w hR hW k1) hW (by omega) (by omega) (fun p _ => by omega), fun hN _ => RN_q (QS_t (QS_w k1) (QS_n (by intro z; rcases z with ⟨r, r1, r2⟩ | ⟨p, p1, z | z | z⟩ <;> omega))) rfl rfl hN⟩
set_option maxRecDepth 100000 in
theorem mroom0 {x s9 m : Int32} {R : Nat} (hx : x.toInt = (R : Int)) (hR : R < 12) : ∀ (k j : Nat) (j9 : Int32) (h : zH), k + j = 11 → j9.toInt = (j : Int) → zat h.1 84 = some (.inr (.inl (12, [none, some (some 85), some (some 86), some (some 87), some (some 88), some (some 89), none, none, some (some 90), none, none, none, none, none, none, some (some 91), none, some (some 92), some (some 93)]))) → zat h.1 85 = some (.inl (0, 2475, [])) → ∀ (n d : Nat), ∃ h' j', zex E (n + 50 + 12 * k) (d + 1) 247 47 [some (.ref 84), some (.int x), some (.int s9), some (.int m), some (.int j9)] [] h = zex E (n + 50) (d + 1) 247 47 [some (.ref 84), some (.int x), some (.int s9), some (.int m), some (.int j')] [] h' ∧ j'.toInt = 11 ∧ RZ h h' ∧ (∀ i, (i < 13 + 11 * R + j ∨ 24 + 11 * R ≤ i) → h'.2.1 85 i = h.2.1 85 i) ∧ ∀ i, j ≤ i → i < 11 → h'.2.1 85 (13 + 11 * R + i) = 0 := by
  intro k
  induction k with
  | zero => intro j j9 h hk hj a84 a85 n d; exact ⟨h, j9, rfl, by omega, RZ_r h, fun _ _ => rfl, fun i h1 h2 => by omega⟩
  | succ k IH =>
    intro j j9 h hk hj a84 a85 n d
    have e1 := mh_ri (E := E) (n := n + 50 + 12 * k + 4 - 8) (d := d) (r := x) (j := j9) (h := h)
    rw [show n + 50 + 12 * k + 4 - 8 + 8 = n + 50 + 12 * k + 4 by omega] at e1
    have ji := room_i hx hR hj (by omega : j < 11)
    obtain ⟨h', j', e2, q1, q2, q3, q4⟩ := IH (j + 1) (j9 + 1) (zsetI h 85 (upd (h.2.1 85) (13 + 11 * R + j) 0)) (by omega) (by rw [i32_add (by rw [hj, int1]; omega) (by rw [hj, int1]; omega), hj, int1]; omega) a84 a85 n d
    refine ⟨h', j', ?_, q1, RZ_t (RZ_s (by omega)) q2, fun i hi => (q3 i (by omega)).trans (by rw [zs_at, upd_n (by omega)]), fun i h1 h2 => ?_⟩
    rotate_left
    · by_cases hij : i = j
      · rw [hij, q3 _ (by omega), zs_at, upd_e]
      · exact q4 i (by omega) h2
    rw [show n + 50 + 12 * (k + 1) = n + 50 + 12 * k + 12 by omega, mr_4 (n := n + 50 + 12 * k) (d := d) (K := 13 + 11 * R + j) (by rw [hj, int11]; omega) ji (by omega) a84 a85 e1]
    exact e2
set_option maxRecDepth 100000 in
theorem roomM (hE : E.1 < 2147483648) (hsm : bSO E ctb B (60, smT)) (hF : 1000000 ≤ F) (hL : L ≤ 400) (ht : YT h0 L h p s) (hk : sk isBl (tp90 h0) L p = nxt (tp90 h0) L s) (hR : RM h σ) (hW : WF σ) :
    ∀ d f, 65 ≤ d → B + F * 2000 ≤ f → lnM h σ h0 L (roomq (tp90 h0) L σ s) (zex E f d 247 0 [some (.ref 84), none, none, none, none] [] h) := by
  intro d f hd hf
  obtain ⟨d', hd'⟩ : ∃ d', d = d' + 1 := ⟨d - 1, by omega⟩
  obtain ⟨n, hn⟩ : ∃ n, f = n + 400 := ⟨f - 400, by omega⟩
  subst hd' hn
  obtain ⟨w1, w2, w3, w4, w5, w6⟩ := id hW
  have a84 := b84_ha ht.1
  have a85 := b85_ha ht.1
  obtain ⟨⟨r1, r2, r3⟩, r4⟩ := id hR
  obtain ⟨v9, h9, c1, c2, ⟨c3, c4⟩, c5, c6, c7, c8⟩ := hsm 247 [sc275] rfl sc275 (List.Mem.head _) (by decide) [] [.ref 84] h (d' + 1) (n + 400) (1, 5, 0, 12, 2, 0) rfl (by show 4 ≤ d' + 1; omega) (by omega) ⟨rfl, trivial⟩ benv_n bcs_n (fun e he => absurd he List.not_mem_nil) ht.1.1 ht.1.2.1 ht.1.2.2.1
  have c1 : zex E (n + 400) (d' + 1) 247 0 [some (.ref 84), none, none, none, none] [] h = some (.inl v9, h9) := c1
  have br : bRQ ctb wY h0 0 0 h9 := bRQ_tr ht.1 ⟨c2, c3, c4, fun a k z => c5 a k (w275_f z), c6, c7⟩
  have e0 := fun f => mh_rooms (E := E) (n := f) (d := d') (x := h.2.1 85 0) rfl a84 a85
  unfold roomq
  by_cases h12 : 12 ≤ sR σ
  · rw [if_pos h12]
    exact ⟨h, p, mr_0 (n := n + 392) (d := d') (by rw [r1, int12]; omega) (b84_ha ht.1) (e0 (n + 393)), ht⟩
  · rw [if_neg h12]
    have hx : (h.2.1 85 0).toInt ≠ (12 : Int32).toInt := by rw [r1, int12]; omega
    have st1 := fun f hf => y_letters hE hsm hF hL ht d' f (by omega) hf
    rw [hk] at st1
    have st2 := fun (h1 : zH) (t1 : YT h0 L h1 (sk isLt (tp90 h0) L (nxt (tp90 h0) L s)) (nxt (tp90 h0) L s)) f hf => y_sorts hE hsm hF hL (q := p) ht.2.2.1 rfl hk.symm t1 d' f (by omega) hf
    by_cases hany : uSorts.any (wqs (tp90 h0) L (nxt (tp90 h0) L s)) = true
    · rw [if_pos hany]
      obtain ⟨u, -, hu⟩ := List.any_eq_true.mp hany
      have hk2 : sk isBl (tp90 h0) L (sk isLt (tp90 h0) L (nxt (tp90 h0) L s)) = nxt (tp90 h0) L (nxt (tp90 h0) L s) := by
        show _ = sk isBl (tp90 h0) L (kE (tp90 h0) L (nxt (tp90 h0) L s))
        rw [kE_2 (wqs_2 hu)]
      have st3 := fun (h2 : zH) (t2 : YT h0 L h2 (sk isLt (tp90 h0) L (nxt (tp90 h0) L s)) (nxt (tp90 h0) L s)) f hf => y_numc hE hsm hF hL t2 (x1 := 1) (x2 := 99) int1 int99 (by decide) d' f (by omega) hf
      rw [hk2] at st3
      cases hn1 : nmq (tp90 h0) L (nxt (tp90 h0) L (nxt (tp90 h0) L s)) 1 99 with
      | none =>
        rw [hn1] at st3
        obtain ⟨h1, e1, k1, t1⟩ := st1 (n + 392) (by omega)
        obtain ⟨x, h2, e2, k2, t2, hx2⟩ := st2 h1 t1 (n + 390) (by omega)
        obtain ⟨y, h3, p3, e3, k3, t3, n3⟩ := st3 h2 t2 (n + 383) (by omega)
        have n3 : y.toInt = -1 := n3
        have hx3 : 0 ≤ x.toInt := by
          rcases hx2 with ⟨_, z⟩ | ⟨z, _⟩
          · rw [hany] at z; cases z
          · exact z
        exact ⟨h3, p3, mr_2 (n := n + 378) (d := d') hx hx3 (by omega) (b84_ha ht.1) (b84_ha t1.1) (b84_ha t2.1) (e0 (n + 393)) e1 e2 e3, t3⟩
      | some v =>
        have b1 := nmq_b hn1
        rw [hn1] at st3
        obtain ⟨h1, e1, k1, t1⟩ := st1 (n + 392) (by omega)
        obtain ⟨x, h2, e2, k2, t2, hx2⟩ := st2 h1 t1 (n + 390) (by omega)
        obtain ⟨y, h3, p3, e3, k3, t3, n3, n4⟩ := st3 h2 t2 (n + 383) (by omega)
        have hx3 : 0 ≤ x.toInt ∧ x.toInt ≤ 4 := by
          rcases hx2 with ⟨_, z⟩ | ⟨z1, z2, _⟩
          · rw [hany] at z; cases z
          · exact ⟨z1, z2⟩
        have e4 := mr_3 (n := n + 378) (d := d') (u1 := none) (u2 := none) (u3 := none) (u4 := none) hx hx3.1 (by omega) (b84_ha ht.1) (b84_ha t1.1) (b84_ha t2.1) (e0 (n + 393)) e1 e2 e3
        obtain ⟨h4, j', e5, hj', ⟨z1, z2, z3⟩, z4, z5⟩ := mroom0 (E := E) (x := h.2.1 85 0) (s9 := x) (m := y) r1 (by omega) 11 0 0 h3 (by omega) rfl (b84_ha t3.1) (b85_ha t3.1) (n + 378 - 182) d'
        have g84 : zat h4.1 84 = some (.inr (.inl (12, [none, some (some 85), some (some 86), some (some 87), some (some 88), some (some 89), none, none, some (some 90), none, none, none, none, none, none, some (some 91), none, some (some 92), some (some 93)]))) := by rw [z1]; exact b84_ha t3.1
        have g85 : zat h4.1 85 = some (.inl (0, 2475, [])) := by rw [z1]; exact b85_ha t3.1
        have i0 := room_i (r := h.2.1 85 0) (j := 0) (b := 0) r1 (by omega) rfl (by decide)
        have i1 := room_i (r := h.2.1 85 0) (j := 1) (b := 1) r1 (by omega) rfl (by decide)
        have hRf := RM_w hR hW (RW_t (RW_t k1 k2) k3)
        obtain ⟨⟨f1, f2, f3⟩, f4, f5⟩ := hRf
        have e6 := mr_5 (E := E) (n := n + 378 - 132 - 27) (d := d') (h := h4) (x := h.2.1 85 0) (s := x) (m := y) (j := j') (r := h3.2.1 85 0) (by rw [hj', int11]; omega) i0 (by omega) i1 (by omega) (by rw [zs_at, upd_n (by omega), zs_at, upd_n (by omega)]; exact z3 0 (by omega)) g84 g85 (mh_ri (E := E) (n := n + 378 - 132 - 27 + 11) (d := d')) (mh_ri (E := E) (n := n + 378 - 132 - 27 + 4) (d := d'))
        rw [show n + 378 - 182 + 50 + 12 * 11 = n + 378 by omega] at e5
        rw [show n + 378 - 132 - 27 + 27 = n + 378 - 182 + 50 by omega] at e6
        have e7 := e4.trans (e5.trans e6)
        obtain ⟨y1, y2⟩ := inl_j c1 e7
        have vr : (h3.2.1 85 0 + 1).toInt = ((sR σ + 1 : Nat) : Int) := by rw [i32_add (by rw [f1, int1]; omega) (by rw [f1, int1]; omega), f1, int1]; omega
        have x15 : (zsetI (zsetI (zsetI h4 85 (upd (h4.2.1 85) (13 + 11 * sR σ + 0) x)) 85 (upd ((zsetI h4 85 (upd (h4.2.1 85) (13 + 11 * sR σ + 0) x)).2.1 85) (13 + 11 * sR σ + 1) y)) 85 (upd ((zsetI (zsetI h4 85 (upd (h4.2.1 85) (13 + 11 * sR σ + 0) x)) 85 (upd ((zsetI h4 85 (upd (h4.2.1 85) (13 + 11 * sR σ + 0) x)).2.1 85) (13 + 11 * sR σ + 1) y)).2.1 85) 0 (h3.2.1 85 0 + 1))).2.1 85 (15 + 11 * sR σ) = 0 := by
          rw [zs_at, upd_n (by omega), zs_at, upd_n (by omega), zs_at, upd_n (by omega), show 15 + 11 * sR σ = 13 + 11 * sR σ + 2 by omega]
          exact z5 2 (by omega) (by omega)
        have xo : ∀ K, qx K → K ≠ 15 + 11 * sR σ → (zsetI (zsetI (zsetI h4 85 (upd (h4.2.1 85) (13 + 11 * sR σ + 0) x)) 85 (upd ((zsetI h4 85 (upd (h4.2.1 85) (13 + 11 * sR σ + 0) x)).2.1 85) (13 + 11 * sR σ + 1) y)) 85 (upd ((zsetI (zsetI h4 85 (upd (h4.2.1 85) (13 + 11 * sR σ + 0) x)) 85 (upd ((zsetI h4 85 (upd (h4.2.1 85) (13 + 11 * sR σ + 0) x)).2.1 85) (13 + 11 * sR σ + 1) y)).2.1 85) 0 (h3.2.1 85 0 + 1))).2.1 85 K = h3.2.1 85 K := fun K hK h15 => by
          have hx0 : K < 13 + 11 * sR σ ∨ 24 + 11 * sR σ ≤ K := by
            rcases hK with ⟨r, r1, r2⟩ | ⟨p, p1, z | z | z⟩ <;> omega
          have := qx_b hK
          rw [zs_at, upd_n (by omega), zs_at, upd_n (by omega), zs_at, upd_n (by omega)]
          exact z4 K (by omega)
        refine ⟨h9, p3, _, by rw [c1, y1], ⟨br, ⟨?_, ?_, ?_⟩, t3.2.2.1, t3.2.2.2.1, ?_⟩, by rw [n4]; rfl, ⟨⟨?_, ?_, ?_⟩, fun i q hi => ?_, fun q hq => ?_⟩, fun hN hZ => RN_room (QS_w (RW_t (RW_t k1 k2) k3)) (by omega) (by rw [y2]; exact x15) (fun K hK h15 => by rw [y2]; exact xo K hK h15) hZ hN⟩
        · rw [y2, zs_ne (by decide), zs_ne (by decide), zs_ne (by decide), z2 84 (by decide)]; exact t3.2.1.1
        · rw [y2, zs_ne (by decide), zs_ne (by decide), zs_ne (by decide), z2 84 (by decide)]; exact t3.2.1.2.1
        · rw [y2, zs_ne (by decide), zs_ne (by decide), zs_ne (by decide), z2 84 (by decide)]; exact t3.2.1.2.2
        · have x4 : XT h0 h4 := ⟨(z3 3 (by omega)).trans t3.2.2.2.2.1, by rw [z2 84 (by decide)]; exact t3.2.2.2.2.2.1, by rw [z2 84 (by decide)]; exact t3.2.2.2.2.2.2⟩
          rw [y2]
          exact XT_85 (by decide) (XT_85 (by omega) (XT_85 (by omega) x4))
        · rw [y2, zs_at, upd_e]; exact vr
        · rw [y2, zs_at, upd_n (by decide), zs_at, upd_n (by omega), zs_at, upd_n (by omega), z3 1 (by omega)]; exact f2
        · rw [y2, zs_at, upd_n (by decide), zs_at, upd_n (by omega), zs_at, upd_n (by omega), z3 2 (by omega)]; exact f3
        · have hl := (List.getElem?_eq_some_iff.mp (show (sdl σ)[i]? = some q from hi)).1
          rw [y2]
          rw [zs_at, upd_n (by omega), zs_at, upd_n (by omega), zs_at, upd_n (by omega), z3 _ (by omega)]
          rw [zs_at, upd_n (by omega), zs_at, upd_n (by omega), zs_at, upd_n (by omega), z3 _ (by omega)]
          exact f4 i q hi
        · have hq : q < sP σ := hq
          have w7 := w6 q hq
          have hq9 := f5 q hq
          rw [y2]
          rw [zs_at, upd_n (by omega), zs_at, upd_n (by omega), zs_at, upd_n (by omega), z3 _ (by omega)]
          refine ⟨hq9.1, fun i hi => ?_⟩
          have hi : i < ssl σ q := hi
          rw [zs_at, upd_n (by omega), zs_at, upd_n (by omega), zs_at, upd_n (by omega), z3 _ (by omega)]
          exact hq9.2 i hi
    · rw [if_neg hany]
      obtain ⟨h1, e1, k1, t1⟩ := st1 (n + 392) (by omega)
      obtain ⟨x, h2, e2, k2, t2, hx2⟩ := st2 h1 t1 (n + 390) (by omega)
      have hx3 : x.toInt < 0 := by
        rcases hx2 with ⟨z, _⟩ | ⟨_, _, z⟩
        · omega
        · exact absurd z hany
      exact ⟨h2, _, mr_1 (n := n + 380) (d := d') hx hx3 (b84_ha ht.1) (b84_ha t1.1) (e0 (n + 393)) e1 e2, t2⟩
end MR
