/-! the model's atom, one deeper; all of it -/
section MD
variable {E : zE} {B F G H : Nat} {h0 : zH} {L : Nat}
set_option maxRecDepth 100000 in
theorem ma_s (hE : E.1 < 2147483648) (hE4 : E.1 ≤ 4000) (hsm : bSO E ctb B (60, smT)) (hF : 1000000 ≤ F) (hG : F * 2000 ≤ G) (hH : F * 9000 + G * 403 ≤ H) (hL : L ≤ 400) {n : Nat} (hma : maP E B H h0 L n) (hps : ∀ m, n = m + 1 → maP E B H h0 L m ∧ alL E B H h0 L m ∧ ∀ m2, m2 ≤ m → coL E B H h0 L m2) : maP E B H h0 L (n + 1) := by
  intro dp p b k h hdp hp hb hk hn hr ht d f hd hf
  have hs := sk_le (P := isBl) (T := tp90 h0) hp
  have hsg := sk_ge (P := isBl) (T := tp90 h0) (L := L) (q := p)
  have hmul : H * (n + 1 + 1) = H * (n + 1) + H := Nat.mul_succ H (n + 1)
  have hmul1 : H * (n + 1) = H * n + H := Nat.mul_succ H n
  have hdr := n_dp hdp
  obtain ⟨m, hm⟩ : ∃ m, f = m + 3 := ⟨f - 3, by omega⟩
  obtain ⟨d', hd'⟩ : ∃ d', d = d' + 1 := ⟨d - 1, by omega⟩
  subst hd'
  obtain ⟨x, h1, e1, q1, r1, t1⟩ := x_sign hE hsm hF hL hp hb hr ht (c := 40) ⟨by decide, by decide⟩ rfl rfl (x := 40) rfl d' m (by omega) (by omega)
  rw [hm, xa_0 (q_84 hr) e1, pq_f]
  by_cases h40 : sqs (tp90 h0) L (sk isBl (tp90 h0) L p) 40 = true
  · rw [if_pos h40] at q1 t1
    subst q1
    have hk3 := (sqs_K3.mp h40).1
    have hnn : ¬ wqs (tp90 h0) L (sk isBl (tp90 h0) L p) uNot = true := fun z => by have := wqs_2 z; omega
    have hlt := q_ltM (h0 := h0) (L := L) (s := sk isBl (tp90 h0) L p) (by omega)
    rw [if_neg hnn, if_pos h40]
    by_cases h6 : 6 ≤ dp
    · rw [if_pos h6]
      obtain ⟨x9, h9, x1, x2, x3, x4⟩ := n_fin hE hsm r1 (n_env (x := 0) (y := 0) (ed := (6, 6)) (ex := qz) (ey := qz) hL (by omega) (by omega) (by omega) (q_i (by omega) (by omega)) q_0 q_0) bcs_n (n_ov t1) n_l1 (st := [.int 1]) (q_c (c := 1) rfl) na_6b n_v1 n_v4 (d' + 1) m (by omega) (by omega)
      exact ⟨x9, h9, x1, x3, i32_0 (by rw [x2]; rfl), x4.2.2.1⟩
    · rw [if_neg h6]
      have hj := na_6a (2 + 3 * (6 - dp)) (by omega)
      rw [afo_eq, show 62 + (2 + 3 * (6 - dp)) = 64 + 3 * (6 - dp) by omega] at hj
      have hnx : nxt (tp90 h0) L (sk isBl (tp90 h0) L p) = sk isBl (tp90 h0) L (sk isBl (tp90 h0) L p + 1) := by rw [nx_p, kE_3 hk3]
      have hg := nxt_gt (T := tp90 h0) (L := L) (s := sk isBl (tp90 h0) L p) sk_idem (by omega)
      rw [hnx] at hg ⊢
      refine n_one hE hsm r1 (n_env (x := 0) (y := 0) (ed := (0, 5)) (ex := qz) (ey := qz) hL (by omega) (by omega) (by omega) (q_i (by omega) (by omega)) q_0 q_0) bcs_n (n_ov t1) n_l1 (st := [.int 1]) (q_c (c := 1) rfl) hj rfl (p' := sk isBl (tp90 h0) L p + 1) (dp' := dp + 1) n_v1 (by show 1 + (1 * (dp : Int) + 0) = _; omega) (B' := B + H * (n + 1) + F * 5000) (by omega) (fun ls2 g2 i1 i2 i3 d2 f2 hd2 hf2 => ?_) (d' + 1) m (by omega) (by omega)
      obtain ⟨u, u1⟩ := n_l1s i1
      obtain ⟨m2, hm2⟩ : ∃ m2, f2 = m2 + 2 := ⟨f2 - 2, by omega⟩
      obtain ⟨d3, hd3⟩ : ∃ d3, d2 = d3 + 1 := ⟨d2 - 1, by omega⟩
      subst hd3
      obtain ⟨n', hn'⟩ : ∃ n', n = n' + 1 := ⟨n - 1, by omega⟩
      obtain ⟨ha, hb2, hc⟩ := hps n' hn'
      subst hn'
      obtain ⟨v, g3, e3, r3, t3⟩ := co_of hE hE4 hsm hF hL ha hb2 hc (dp := dp + 1) (p := sk isBl (tp90 h0) L p + 1) (b := sk isBl (tp90 h0) L p) (k := k) (by omega) (by omega) (by omega) (by omega) (by omega) i2 i3 d3 m2 (by omega) (by omega)
      rw [hm2, u1, xa_30 (q_84 i2) e3]
      cases hq : pq (tp90 h0) L (n' + 1) true (dp + 1) (sk isBl (tp90 h0) L (sk isBl (tp90 h0) L p + 1)) with
      | inr w =>
        rw [hq] at t3
        obtain ⟨t4, t5⟩ := t3
        subst t4
        obtain ⟨m3, hm3⟩ : ∃ m3, m2 = m3 + 3 := ⟨m2 - 3, by omega⟩
        rw [hm3, xa_34n]
        exact ⟨0, g3, rfl, r3, rfl, t5⟩
      | inl e =>
        rw [hq] at t3
        obtain ⟨t4, p3, b3, k3, t5, u1, u2, u3, u4, u5⟩ := t3
        subst t4 u3
        have hs3 := sk_le (P := isBl) (T := tp90 h0) u1
        have hsg3 := sk_ge (P := isBl) (T := tp90 h0) (L := L) (q := p3)
        refine n_one hE hsm r3 (n_env (x := 0) (y := 0) (ed := (1, 6)) (ex := qz) (ey := qz) hL (by omega) (by omega) (by omega) (q_i (by omega) (by omega)) q_0 q_0) bcs_n (n_ov t5) n_l1 (st := [.int 1]) (q_c (c := 1) rfl) na_34 rfl (p' := p3) (dp' := dp) n_v1 (by show -1 + (1 * ((dp + 1 : Nat) : Int) + 0) = _; omega) (B' := B + F * 1000) (by omega) (fun ls4 g4 i4 i5 i6 d5 f5 hd5 hf5 => ?_) (d3 + 1) m2 (by omega) (by omega)
        obtain ⟨w, w1⟩ := n_l1s i4
        obtain ⟨m5, hm5⟩ : ∃ m5, f5 = m5 + 4 := ⟨f5 - 4, by omega⟩
        obtain ⟨d6, hd6⟩ : ∃ d6, d5 = d6 + 1 := ⟨d5 - 1, by omega⟩
        subst hd6
        obtain ⟨y, g5, e5, q5, r5, t6⟩ := x_sign hE hsm hF hL u1 u2 i5 i6 (c := 41) ⟨by decide, by decide⟩ rfl rfl (x := 41) rfl d6 (m5 + 1) (by omega) (by omega)
        rw [hm5, w1]
        show moQ h0 L p k dp (if sqs (tp90 h0) L (sk isBl (tp90 h0) L p3) 41 = true then .inl (nxt (tp90 h0) L (sk isBl (tp90 h0) L p3)) else .inr (sk isBl (tp90 h0) L p3)) _
        by_cases h41 : sqs (tp90 h0) L (sk isBl (tp90 h0) L p3) 41 = true
        · rw [if_pos h41] at q5 t6 ⊢
          subst q5
          have hk31 := (sqs_K3.mp h41).1
          have hlt3 := q_ltM (h0 := h0) (L := L) (s := sk isBl (tp90 h0) L p3) (by omega)
          refine ⟨1, g5, xa_49 (q_84 i5) (Or.inr rfl) e5, r5, rfl, _, _, k3, t6, by omega, by omega, ?_, by omega, by omega⟩
          rw [nx_p, kE_3 hk31]
        · rw [if_neg h41] at q5 t6 ⊢
          subst q5
          exact ⟨0, g5, xa_49 (q_84 i5) (Or.inl rfl) e5, r5, rfl, t6.2.2.1⟩
  · rw [if_neg h40] at q1 t1
    subst q1
    rw [if_neg h40]
    obtain ⟨m2, hm2⟩ : ∃ m2, m = m2 + 4 := ⟨m - 4, by omega⟩
    obtain ⟨y, h2, e2, q2, r2, t2⟩ := x_passes hE hsm hF hL hs (by omega) r1 t1 (w := 42) (u := uNot) (by decide) (by decide) d' m2 (by omega) (by omega)
    rw [sk_idem] at q2 t2
    rw [hm2, xa_6n (q_84 r1) e2]
    by_cases hnt : wqs (tp90 h0) L (sk isBl (tp90 h0) L p) uNot = true
    · rw [if_pos hnt] at q2 t2 ⊢
      subst q2
      have hkk := wqs_K hnt
      have hlt := q_ltM (h0 := h0) hkk
      have hke := kE_bb (T := tp90 h0) hs sk_idem hkk
      have hg := nxt_gt (T := tp90 h0) (L := L) sk_idem hkk
      by_cases h6 : 6 ≤ dp
      · rw [if_pos h6]
        obtain ⟨x9, h9, x1, x2, x3, x4⟩ := n_fin hE hsm r2 (n_env (x := 0) (y := 0) (ed := (6, 6)) (ex := qz) (ey := qz) hL (by omega) (by omega) (by omega) (q_i (by omega) (by omega)) q_0 q_0) bcs_n (n_ov t2) n_l1 (st := [.int 1]) (q_c (c := 1) rfl) na_62b n_v1 n_v4 (d' + 1) m2 (by omega) (by omega)
        exact ⟨x9, h9, x1, x3, i32_0 (by rw [x2]; rfl), x4.2.2.1⟩
      · rw [if_neg h6]
        have hj := na_62a (2 + 3 * (6 - dp)) (by omega)
        rw [afo_eq, show 62 + (2 + 3 * (6 - dp)) = 64 + 3 * (6 - dp) by omega] at hj
        rw [nx_p] at hg ⊢
        refine n_one hE hsm r2 (n_env (x := 0) (y := 0) (ed := (0, 5)) (ex := qz) (ey := qz) hL (by omega) (by omega) (by omega) (q_i (by omega) (by omega)) q_0 q_0) bcs_n (n_ov t2) n_l1 (st := [.int 1]) (q_c (c := 1) rfl) hj rfl (p' := kE (tp90 h0) L (sk isBl (tp90 h0) L p)) (dp' := dp + 1) n_v1 (by show 1 + (1 * (dp : Int) + 0) = _; omega) (B' := B + H * (n + 1) + F * 5000) (by omega) (fun ls2 g2 i1 i2 i3 d2 f2 hd2 hf2 => ?_) (d' + 1) m2 (by omega) (by omega)
        obtain ⟨u, u1⟩ := n_l1s i1
        obtain ⟨m3, hm3⟩ : ∃ m3, f2 = m3 + 2 := ⟨f2 - 2, by omega⟩
        obtain ⟨d3, hd3⟩ : ∃ d3, d2 = d3 + 1 := ⟨d2 - 1, by omega⟩
        subst hd3
        obtain ⟨v, g3, e3, r3, t3⟩ := hma (dp + 1) _ _ k g2 (by omega) hke.2 (by omega) (by omega) (by omega) i2 i3 d3 m3 (by omega) (by omega)
        rw [hm3, u1, xa_86 (q_84 i2) e3]
        cases hq : pq (tp90 h0) L n false (dp + 1) (sk isBl (tp90 h0) L (kE (tp90 h0) L (sk isBl (tp90 h0) L p))) with
        | inr w =>
          rw [hq] at t3
          obtain ⟨t4, t5⟩ := t3
          subst t4
          obtain ⟨m4, hm4⟩ : ∃ m4, m3 = m4 + 3 := ⟨m3 - 3, by omega⟩
          rw [hm4, xa_90n]
          exact ⟨0, g3, rfl, r3, rfl, t5⟩
        | inl e =>
          rw [hq] at t3
          obtain ⟨t4, p3, b3, k3, t5, u1, u2, u3, u4, u5⟩ := t3
          subst t4
          refine n_one hE hsm r3 (n_env (x := 0) (y := 0) (ed := (1, 6)) (ex := qz) (ey := qz) hL (by omega) (by omega) (by omega) (q_i (by omega) (by omega)) q_0 q_0) bcs_n (n_ov t5) n_l1 (st := [.int 1]) (q_c (c := 1) rfl) na_90 rfl (p' := p3) (dp' := dp) n_v1 (by show -1 + (1 * ((dp + 1 : Nat) : Int) + 0) = _; omega) (B' := B + F * 1000) (by omega) (fun ls4 g4 i4 i5 i6 d5 f5 hd5 hf5 => ?_) (d3 + 1) m3 (by omega) (by omega)
          obtain ⟨w, w1⟩ := n_l1s i4
          obtain ⟨m5, hm5⟩ : ∃ m5, f5 = m5 + 6 := ⟨f5 - 6, by omega⟩
          obtain ⟨d6, hd6⟩ : ∃ d6, d5 = d6 + 1 := ⟨d5 - 1, by omega⟩
          subst hd6
          obtain ⟨h3, e5, r5, t6⟩ := x_emit hE4 i5 i6 (by omega) (x := 12) (y := 0) ⟨by decide, by decide⟩ d6 (m5 + 2) (by omega)
          rw [hm5, w1, xa_105 (q_84 i5) e5]
          exact ⟨1, h3, rfl, r5, rfl, p3, b3, k3 + 1, t6, u1, u2, u3, by omega, by omega⟩
    · rw [if_neg hnt] at q2 t2 ⊢
      subst q2
      obtain ⟨m3, hm3⟩ : ∃ m3, m2 = m3 + 3 := ⟨m2 - 3, by omega⟩
      obtain ⟨z, h3, e3, r3, j1, j2⟩ := mTag hE hE4 hsm hF hL hs (by omega) (by omega) hdp r2 t2 d' m3 (by omega) (by omega)
      rw [sk_idem] at j1 j2
      rw [hm3, xa_62n (q_84 r2) e3]
      by_cases htg : tgb (tp90 h0) L (sk isBl (tp90 h0) L p) = true
      · obtain ⟨z1, t4⟩ := j1 htg
        subst z1
        have hkk : kK (tp90 h0) L (sk isBl (tp90 h0) L p) ≠ 0 := swK htg
        have hke := kE_bb (T := tp90 h0) hs sk_idem hkk
        rw [if_pos (show (uSorts.any (wqs (tp90 h0) L (sk isBl (tp90 h0) L p)) || wqs (tp90 h0) L (sk isBl (tp90 h0) L p) uWet) = true from htg)]
        obtain ⟨m4, hm4⟩ : ∃ m4, m3 = m4 + 3 := ⟨m3 - 3, by omega⟩
        rw [hm4, xa_118y]
        exact ⟨1, h3, rfl, r3, rfl, _, _, k + 1, t4, hke.2, by omega, rfl, by omega, by omega⟩
      · obtain ⟨z1, t4⟩ := j2 (bFls htg)
        subst z1
        rw [if_neg (show ¬ (uSorts.any (wqs (tp90 h0) L (sk isBl (tp90 h0) L p)) || wqs (tp90 h0) L (sk isBl (tp90 h0) L p) uWet) = true from htg)]
        have hc := mCmp hE hE4 hsm hF hG hL hs (by omega) (by omega) hdp r3 t4 (u1 := none) (d' + 1) m3 (by omega) (by omega)
        rw [sk_idem] at hc
        exact moQ_up hc hsg (by omega)
set_option maxRecDepth 100000 in
theorem mall (hE : E.1 < 2147483648) (hE4 : E.1 ≤ 4000) (hsm : bSO E ctb B (60, smT)) (hF : 1000000 ≤ F) (hG : F * 2000 ≤ G) (hH : F * 9000 + G * 403 ≤ H) (hL : L ≤ 400) : ∀ n, ∀ m, m ≤ n → maP E B H h0 L m ∧ alL E B H h0 L m ∧ coL E B H h0 L m := by
  intro n
  induction n with
  | zero =>
    intro m hm
    have hm0 : m = 0 := by omega
    subst hm0
    exact ⟨fun dp p b k h _ _ _ _ hn => absurd hn (by omega), al_s hE hE4 hsm hF (by omega) hL fun m z => absurd z (by omega), co_s hE hE4 hsm hF (by omega) hL fun m z => absurd z (by omega)⟩
  | succ n IH =>
    intro m hm
    by_cases hmn : m ≤ n
    · exact IH m hmn
    · have hm1 : m = n + 1 := by omega
      subst hm1
      have hprev : ∀ q, n + 1 = q + 1 → maP E B H h0 L q ∧ alL E B H h0 L q ∧ ∀ m2, m2 ≤ q → coL E B H h0 L m2 := fun q hq => ⟨(IH q (by omega)).1, (IH q (by omega)).2.1, fun m2 h2 => (IH m2 (by omega)).2.2⟩
      refine ⟨ma_s hE hE4 hsm hF hG hH hL (IH n (Nat.le_refl _)).1 fun q hq => ⟨(IH q (by omega)).1, (IH q (by omega)).2.1, fun m2 h2 => (IH m2 (by omega)).2.2⟩, al_s hE hE4 hsm hF (by omega) hL fun q hq => ⟨(hprev q hq).1, (hprev q hq).2.1⟩, co_s hE hE4 hsm hF (by omega) hL hprev⟩
end MD
