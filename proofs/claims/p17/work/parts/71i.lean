/-! the model's line of THE LAW -/
section MLN
variable {E : zE} {B F G H : Nat} {h0 : zH} {L : Nat}
set_option maxRecDepth 100000 in
theorem n_wl {V : List Int} {i j : Int} {vi vj : Int32} (h1 : vi.toInt = i) (h2 : vj.toInt = j) : bLR V (nWL i j) [some (.ref 84), some (.int vi), some (.int vj)] := ⟨⟨_, rfl, rfl⟩, ⟨_, rfl, vi, rfl, by rw [h1]; exact brel_c V i⟩, ⟨_, rfl, vj, rfl, by rw [h2]; exact brel_c V j⟩, trivial⟩
set_option maxRecDepth 100000 in
theorem n_wls {V : List Int} {i j : Int} {ls : zLs} (h : bLR V (nWL i j) ls) : ∃ vi vj : Int32, ls = [some (.ref 84), some (.int vi), some (.int vj)] ∧ vi.toInt = i ∧ vj.toInt = j := by
  obtain ⟨x, y, e1, e2, e3⟩ := n_l2a h
  rw [bvx_k] at e2 e3
  exact ⟨x, y, e1, e2, e3⟩
set_option maxRecDepth 100000 in
theorem mLaw (hE : E.1 < 2147483648) (hE4 : E.1 ≤ 4000) (hsm : bSO E ctb B (60, smT)) (hF : 1000000 ≤ F) (hG : F * 2000 ≤ G) (hH : F * 9000 + G * 403 ≤ H) (hL : L ≤ 400) {p q k dp n : Nat} {h : zH} {vn : Int32} (hvn : vn.toInt = (n : Int)) (hn : n < 12) (hq : q ≤ L) (hpq : p = sk isLt (tp90 h0) L (sk isBl (tp90 h0) L q)) (hk : k ≤ q) (hdp : dp ≤ 6) (hr : bRQ ctb wN h0 0 0 h) (ht : MT h L p (sk isBl (tp90 h0) L q) k dp) :
    ∀ d f, 92 ≤ d → B + H * 1002 ≤ f → moQ h0 L q k 0 (lnq (tp90 h0) L (sk isBl (tp90 h0) L q)) (zex E f d 262 0 [some (.ref 84), some (.int vn), none] [] h) := by
  intro d f hd hf
  have hmul : H * 1002 = H * 1001 + H := Nat.mul_succ H 1001
  have hmul2 : H * 1001 = H * 1000 + H := Nat.mul_succ H 1000
  have hs := sk_le (P := isBl) (T := tp90 h0) hq
  have hsg := sk_ge (P := isBl) (T := tp90 h0) (L := L) (q := q)
  have hpl : p ≤ L := by rw [hpq]; exact sk_le hs
  have hpg : sk isBl (tp90 h0) L q ≤ p := by rw [hpq]; exact sk_ge
  have hdr := n_dp hdp
  have hwk0 : ∀ {x : Nat}, x ≤ 6 → nD.1 ≤ (x : Int) ∧ (x : Int) ≤ nD.2 := fun h => n_dp h
  have hj := nw_0 n hn
  rw [nWK_e] at hj
  refine n_one hE hsm hr (n_env (x := 0) (y := 0) (ex := qz) (ey := qz) hL (by omega) (by omega) (by omega) hdr q_0 q_0) bcs_n (n_ov ht) (show bLR _ [q84, kcc (n : Int), none] [some (.ref 84), some (.int vn), none] from ⟨⟨_, rfl, rfl⟩, ⟨_, rfl, vn, rfl, by rw [hvn]; exact brel_c _ _⟩, trivial, trivial⟩) (ak := []) (st := []) trivial hj rfl n_v1 n_v4 (B' := B + H * 1001 + F * 8000) (by omega) (fun ls2 g2 i1 i2 i3 d2 f2 hd2 hf2 => ?_) d f hd (by omega)
  obtain ⟨vi, vj, l1, l2, l3⟩ := n_wls i1
  obtain ⟨m2, hm2⟩ : ∃ m2, f2 = m2 + 24 + 3 := ⟨f2 - 27, by omega⟩
  obtain ⟨d3, hd3⟩ : ∃ d3, d2 = d3 + 1 := ⟨d2 - 1, by omega⟩
  subst hd3
  obtain ⟨x, g3, m3, w1, w2, w3, w4, w5⟩ := xw_w (u1 := some (.int vi)) (y := vj) hE hsm hL hpl i2 hq hpq rfl i3 d3 m2 (by omega) (by omega)
  rw [hm2, l1, xw_8 (q_84 i2), w5]
  have hx := any4 (wqs (tp90 h0) L (sk isBl (tp90 h0) L q) [98, 114, 105, 110, 103]) (wqs (tp90 h0) L (sk isBl (tp90 h0) L q) [100, 114, 111, 112]) (wqs (tp90 h0) L (sk isBl (tp90 h0) L q) [112, 105, 99, 107]) (wqs (tp90 h0) L (sk isBl (tp90 h0) L q) [115, 119, 101, 101, 112])
  rw [← w1] at hx
  have hx : (uKinds.any (wqs (tp90 h0) L (sk isBl (tp90 h0) L q)) = true → 0 ≤ x.toInt ∧ x.toInt ≤ 3) ∧ (uKinds.any (wqs (tp90 h0) L (sk isBl (tp90 h0) L q)) = false → x.toInt = -1) := hx
  unfold lnq
  by_cases hkd : uKinds.any (wqs (tp90 h0) L (sk isBl (tp90 h0) L q)) = true
  · rw [if_pos hkd]
    have hx1 := hx.1 hkd
    have h2 : kK (tp90 h0) L (sk isBl (tp90 h0) L q) = 2 := by
      obtain ⟨u, -, hu⟩ := List.any_eq_true.mp hkd
      exact wqs_2 hu
    have hpe : p = kE (tp90 h0) L (sk isBl (tp90 h0) L q) := by rw [hpq, kE_2 h2]
    have hke := kE_bb (T := tp90 h0) hs sk_idem (by omega)
    have hj := nw_66a n hn
    rw [nWK_e] at hj
    refine n_one hE hsm w2 (n_env (x := 0) (y := x.toInt) (ex := qz) (ey := (0, 3)) hL (by omega) (by omega) (by omega) hdr q_0 (q_i hx1.1 hx1.2)) bcs_n (n_ov w3) (n_wl l2 l3) (show bKR _ [.inl (mv 6), .inl (1627 + 4 * (n : Int), []), .inr (.inl (.ref 85))] [.int x, .int vj, .ref 85] from ⟨⟨x, rfl, brel_v rfl⟩, ⟨vj, rfl, by rw [l3]; exact brel_c _ _⟩, rfl, trivial⟩) hj rfl n_v1 n_v4 (B' := B + H * 1001 + F * 7000) (by omega) (fun ls4 g4 i4 i5 i6 d4 f4 hd4 hf4 => ?_) (d3 + 1) m3 (by omega) (by omega)
    obtain ⟨vi2, vj2, o1, o2, o3⟩ := n_wls i4
    obtain ⟨m5, hm5⟩ : ∃ m5, f4 = m5 + 10 := ⟨f4 - 10, by omega⟩
    obtain ⟨d5, hd5⟩ : ∃ d5, d4 = d5 + 1 := ⟨d4 - 1, by omega⟩
    subst hd5
    obtain ⟨v, g5, p5, e5, y1, y2, y3, r5, t5⟩ := x_figures hE hsm hF hL hpl (by omega) i5 i6 d5 m5 (by omega) (by omega)
    rw [hm5, o1, xw_78 (q_84 i5) e5]
    have hnx : nxt (tp90 h0) L (sk isBl (tp90 h0) L q) = sk isBl (tp90 h0) L p := by rw [nx_p, hpe]
    rw [← hnx] at y1 y2 t5
    have hs1 : nxt (tp90 h0) L (sk isBl (tp90 h0) L q) ≤ L := nxt_le hs
    have hs1g : p ≤ nxt (tp90 h0) L (sk isBl (tp90 h0) L q) := by rw [hnx]; exact sk_ge
    have h19 : (1 : Int32).toInt = 1 := rfl
    have hj1 : (vj2 + 1).toInt = 1627 + 4 * (n : Int) + 1 := by rw [i32_add (by rw [o3, h19]; omega) (by rw [o3, h19]; omega), o3, h19]
    by_cases hnq : nqs (tp90 h0) L (nxt (tp90 h0) L (sk isBl (tp90 h0) L q)) 3 = true
    · rw [if_pos hnq]
      obtain ⟨v1, v2, v3⟩ := y1 hnq
      have hj := nw_94a n hn
      rw [nWK_e, bfo_eq] at hj
      have hkk1 := nqs_K hnq
      have hke1 := kE_bb (T := tp90 h0) hs1 nxt_c hkk1
      refine n_one hE hsm r5 (n_env (x := 0) (y := v.toInt) (ex := qz) (ey := (0, 999)) hL (by omega) (by omega) (by omega) hdr q_0 (q_i v1 v2)) bcs_n (n_ov t5) (n_wl o2 o3) (show bKR _ [.inl (mv 6), .inl (1627 + 4 * (n : Int) + 1, []), .inr (.inl (.ref 85))] [.int v, .int (vj2 + 1), .ref 85] from ⟨⟨v, rfl, brel_v rfl⟩, ⟨_, rfl, by rw [hj1]; exact brel_c _ _⟩, rfl, trivial⟩) hj rfl (p' := p5) (dp' := 0) n_v1 rfl (B' := B + H * 1001 + F * 5000) (by omega) (fun ls6 g6 i7 i8 i9 d6 f6 hd6 hf6 => ?_) (d5 + 1) m5 (by omega) (by omega)
      obtain ⟨vi3, vj3, s1, s2, s3⟩ := n_wls i7
      obtain ⟨m7, hm7⟩ : ∃ m7, f6 = m7 + 3 := ⟨f6 - 3, by omega⟩
      obtain ⟨d7, hd7⟩ : ∃ d7, d6 = d7 + 1 := ⟨d6 - 1, by omega⟩
      subst hd7
      obtain ⟨y, g7, e7, q7, r7, t7⟩ := x_passes hE hsm hF hL y3 (by omega) i8 i9 (w := 41) (u := uIf) (by decide) (by decide) d7 m7 (by omega) (by omega)
      rw [hm7, s1, xw_125 (q_84 i8) e7]
      have hnx2 : nxt (tp90 h0) L (nxt (tp90 h0) L (sk isBl (tp90 h0) L q)) = sk isBl (tp90 h0) L p5 := by rw [v3]; rfl
      rw [← hnx2] at q7 t7
      have hs2 : nxt (tp90 h0) L (nxt (tp90 h0) L (sk isBl (tp90 h0) L q)) ≤ L := nxt_le hs1
      have hs2g : p5 ≤ nxt (tp90 h0) L (nxt (tp90 h0) L (sk isBl (tp90 h0) L q)) := by rw [hnx2]; exact sk_ge
      -- the end: from 143 on
      have last : ∀ (g : zH) (vi vj : Int32) (pe be ke e : Nat), vi.toInt = (n : Int) → vj.toInt = 1627 + 4 * (n : Int) → bRQ ctb wN h0 0 0 g → MT g L pe be ke 0 → pe ≤ L → be ≤ 400 → sk isBl (tp90 h0) L pe = e → q ≤ pe → ke + q ≤ k + pe → ∀ d f, 62 ≤ d → B + 1000000 ≤ f → moQ h0 L q k 0 (.inl e) (zex E f d 262 143 [some (.ref 84), some (.int vi), some (.int vj)] [] g) := by
        intro g vi vj pe be ke e a1 a2 a3 a4 a5 a6 a7 a8 a9 d f hd hf
        have hj := nw_143 n hn
        rw [nWK_e] at hj
        obtain ⟨x9, h9, x1, x2, x3, x4⟩ := n_fin hE hsm a3 (n_env (x := 0) (y := 0) (ex := qz) (ey := qz) hL (by omega) (by omega) (by omega) (hwk0 (by decide)) q_0 q_0) bcs_n (n_ov a4) (n_wl a1 a2) (ak := []) (st := []) trivial hj n_v1 n_v4 d f (by omega) hf
        exact ⟨x9, h9, x1, x3, i32_1 (by rw [x2]; rfl), pe, be, ke, x4, a5, a6, a7, a8, a9⟩
      by_cases hif : wqs (tp90 h0) L (nxt (tp90 h0) L (nxt (tp90 h0) L (sk isBl (tp90 h0) L q))) uIf = true
      · rw [if_pos hif] at q7 t7 ⊢
        subst q7
        have hkk2 := wqs_K hif
        have hke2 := kE_bb (T := tp90 h0) hs2 nxt_c hkk2
        obtain ⟨m8, hm8⟩ : ∃ m8, m7 = m8 + 3 := ⟨m7 - 3, by omega⟩
        have hM := mall (h0 := h0) (L := L) hE hE4 hsm hF hG hH hL 999
        have hpos : 0 < 1000 := by decide
        obtain ⟨N, hN1, hN2⟩ : ∃ N : Nat, 1000 = N + 1 ∧ N = 999 := ⟨999, rfl, rfl⟩
        have hmN : H * (N + 1) = H * 1000 := by rw [hN2]
        rw [nx_p (s := nxt (tp90 h0) L (nxt (tp90 h0) L (sk isBl (tp90 h0) L q))), hN1]
        obtain ⟨x8, g8, e8, r8, t8⟩ := co_of hE hE4 hsm hF hL (hM N (by omega)).1 (hM N (by omega)).2.1 (fun m2 h2 => (hM m2 (by omega)).2.2) (dp := 0) (k := k) (by decide) hke2.2 (by omega) (by omega) (by omega) r7 t7 d7 m8 (by omega) (by omega)
        rw [hm8, xw_131y (q_84 r7) e8]
        cases hc : pq (tp90 h0) L (N + 1) true 0 (sk isBl (tp90 h0) L (kE (tp90 h0) L (nxt (tp90 h0) L (nxt (tp90 h0) L (sk isBl (tp90 h0) L q))))) with
        | inr w =>
          rw [hc] at t8
          obtain ⟨t9, t10⟩ := t8
          subst t9
          obtain ⟨m9, hm9⟩ : ∃ m9, m8 = m9 + 3 := ⟨m8 - 3, by omega⟩
          rw [hm9, xw_138n]
          exact ⟨0, g8, rfl, r8, rfl, t10⟩
        | inl e =>
          rw [hc] at t8
          obtain ⟨t9, pe, be, ke, t10, b1, b2, b3, b4, b5⟩ := t8
          subst t9
          obtain ⟨m9, hm9⟩ : ∃ m9, m8 = m9 + 1 := ⟨m8 - 1, by omega⟩
          rw [hm9, xw_138y]
          exact last g8 vi3 vj3 pe be ke e s2 s3 r8 t10 b1 b2 b3 (by omega) (by omega) (d7 + 1) m9 (by omega) (by omega)
      · rw [if_neg hif] at q7 t7 ⊢
        subst q7
        obtain ⟨m8, hm8⟩ : ∃ m8, m7 = m8 + 1 := ⟨m7 - 1, by omega⟩
        rw [hm8, xw_131n]
        exact last g7 vi3 vj3 _ _ k _ s2 s3 r7 t7 hs2 (by omega) nxt_c (by omega) (by omega) (d7 + 1) m8 (by omega) (by omega)
    · rw [if_neg hnq]
      have hv := y2 (bFls hnq)
      have hj := nw_94b n hn
      rw [nWK_e, bfo_eq] at hj
      obtain ⟨x9, h9, x1, x2, x3, x4⟩ := n_fin hE hsm r5 (n_env (x := 0) (y := 0) (ex := qz) (ey := qz) hL (by omega) (by omega) (by omega) hdr q_0 q_0) bcs_n (n_ov t5) (n_wl o2 o3) (show bKR _ [.inl (-1, []), .inl (1627 + 4 * (n : Int) + 1, []), .inr (.inl (.ref 85))] [.int v, .int (vj2 + 1), .ref 85] from ⟨⟨v, rfl, by rw [hv]; exact brel_c _ _⟩, ⟨_, rfl, by rw [hj1]; exact brel_c _ _⟩, rfl, trivial⟩) hj n_v1 n_v4 (d5 + 1) m5 (by omega) (by omega)
      exact ⟨x9, h9, x1, x3, i32_0 (by rw [x2]; rfl), x4.2.2.1⟩
  · have hkd := bFls hkd
    rw [if_neg (by rw [hkd]; decide)]
    have hv := hx.2 hkd
    have hj := nw_66b n hn
    rw [nWK_e] at hj
    obtain ⟨x9, h9, x1, x2, x3, x4⟩ := n_fin hE hsm w2 (n_env (x := 0) (y := 0) (ex := qz) (ey := qz) hL (by omega) (by omega) (by omega) hdr q_0 q_0) bcs_n (n_ov w3) (n_wl l2 l3) (show bKR _ [.inl (-1, []), .inl (1627 + 4 * (n : Int), []), .inr (.inl (.ref 85))] [.int x, .int vj, .ref 85] from ⟨⟨x, rfl, by rw [hv]; exact brel_c _ _⟩, ⟨vj, rfl, by rw [l3]; exact brel_c _ _⟩, rfl, trivial⟩) hj n_v1 n_v4 (d3 + 1) m3 (by omega) (by omega)
    exact ⟨x9, h9, x1, x3, i32_0 (by rw [x2]; rfl), x4.2.2.1⟩
set_option maxRecDepth 100000 in
theorem mRl (hE : E.1 < 2147483648) (hE4 : E.1 ≤ 4000) (hsm : bSO E ctb B (60, smT)) (hF : 1000000 ≤ F) (hG : F * 2000 ≤ G) (hH : F * 9000 + G * 403 ≤ H) (hL : L ≤ 400) {q b k dp n : Nat} {h : zH} {vh vn : Int32} (hvh : vh.toInt = 0) (hvn : vn.toInt = (n : Int)) (hn : n ≤ 12) (hq : q ≤ L) (hb : b ≤ 400) (hk : k ≤ q) (hdp : dp ≤ 6) (hr : bRQ ctb wN h0 0 0 h) (ht : MT h L q b k dp) :
    ∀ d f, 93 ≤ d → B + H * 1003 ≤ f → moQ h0 L q k 0 (if n < 12 then lnq (tp90 h0) L (sk isBl (tp90 h0) L q) else .inr (sk isBl (tp90 h0) L q)) (zex E f d 263 0 [some (.ref 84), some (.int vh), some (.int vn)] [] h) := by
  intro d f hd hf
  have hmul : H * 1003 = H * 1002 + H := Nat.mul_succ H 1002
  have hs := sk_le (P := isBl) (T := tp90 h0) hq
  have hle := sk_le (P := isLt) (T := tp90 h0) hs
  have hdr := n_dp hdp
  obtain ⟨m, hm⟩ : ∃ m, f = m + 2 := ⟨f - 2, by omega⟩
  obtain ⟨d', hd'⟩ : ∃ d', d = d' + 1 := ⟨d - 1, by omega⟩
  subst hd'
  obtain ⟨h1, e1, r1, t1⟩ := x_letters hE hsm hF hL hq hb hr ht d' m (by omega) (by omega)
  rw [hm, xr_0 (q_84 hr) e1]
  have hl : ∀ {V : List Int}, brel V (mv 5) (n : Int) → bLR V [q84, kcc 0, kvv 5] [some (.ref 84), some (.int vh), some (.int vn)] := fun z => ⟨⟨_, rfl, rfl⟩, ⟨_, rfl, vh, rfl, by rw [hvh]; exact brel_c _ 0⟩, ⟨_, rfl, vn, rfl, by rw [hvn]; exact z⟩, trivial⟩
  by_cases h12 : n < 12
  · rw [if_pos h12]
    refine n_one hE hsm r1 (n_env (x := (n : Int)) (y := 0) (ex := nLn) (ey := qz) hL (by omega) (by omega) (by omega) hdr (q_i (by omega) (by omega)) q_0) bcs_n (n_ov t1) (hl (brel_v rfl)) (ak := []) (st := []) trivial nr_4a rfl n_v1 n_v4 (B' := B + H * 1002 + 10) (by omega) (fun ls2 g2 i1 i2 i3 d2 f2 hd2 hf2 => ?_) (d' + 1) m (by omega) (by omega)
    obtain ⟨vx, vy, l1, l2, l3⟩ := n_l2a i1
    unfold mv at l3
    rw [bvx_v] at l3
    have l3 : vy.toInt = (n : Int) := l3
    obtain ⟨m2, hm2⟩ : ∃ m2, f2 = m2 + 3 := ⟨f2 - 3, by omega⟩
    obtain ⟨d3, hd3⟩ : ∃ d3, d2 = d3 + 1 := ⟨d2 - 1, by omega⟩
    subst hd3
    obtain ⟨x, g3, e3, r3, t3⟩ := mLaw hE hE4 hsm hF hG hH hL l3 h12 hq rfl hk hdp i2 i3 d3 m2 (by omega) (by omega)
    rw [hm2, l1, xr_33 (q_84 i2) e3]
    cases hl9 : lnq (tp90 h0) L (sk isBl (tp90 h0) L q) with
    | inr w =>
      rw [hl9] at t3
      obtain ⟨t4, t5⟩ := t3
      subst t4
      obtain ⟨m4, hm4⟩ : ∃ m4, m2 = m4 + 3 := ⟨m2 - 3, by omega⟩
      rw [hm4, xr_38n]
      exact ⟨0, g3, rfl, r3, rfl, t5⟩
    | inl e =>
      rw [hl9] at t3
      obtain ⟨t4, t5⟩ := t3
      subst t4
      obtain ⟨m4, hm4⟩ : ∃ m4, m2 = m4 + 4 := ⟨m2 - 4, by omega⟩
      rw [hm4, xr_38y]
      exact ⟨1, g3, rfl, r3, rfl, t5⟩
  · rw [if_neg h12]
    obtain ⟨x9, h9, x1, x2, x3, x4⟩ := n_fin hE hsm r1 (n_env (x := (n : Int)) (y := 0) (ex := (12, 12)) (ey := qz) hL (by omega) (by omega) (by omega) hdr (q_i (by omega) (by omega)) q_0) bcs_n (n_ov t1) (hl (brel_v rfl)) (ak := []) (st := []) trivial nr_4b n_v1 n_v4 (d' + 1) m (by omega) (by omega)
    exact ⟨x9, h9, x1, x3, i32_0 (by rw [x2]; rfl), x4.2.2.1⟩
end MLN
