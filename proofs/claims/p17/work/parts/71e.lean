/-! the model's part, sum and tag of THE LAW -/
def moQ (h0 : zH) (L p k dp : Nat) (r : Nat ⊕ Nat) (o : Option zR) : Prop := ∃ (x : Int32) (h' : zH), o = some (.inl (some (.int x)), h') ∧ bRQ ctb wN h0 0 0 h' ∧ (match r with
  | .inr w => x = 0 ∧ (h'.2.1 84 12).toInt = (w : Int)
  | .inl e => x = 1 ∧ ∃ p' b' k', MT h' L p' b' k' dp ∧ p' ≤ L ∧ b' ≤ 400 ∧ sk isBl (tp90 h0) L p' = e ∧ p ≤ p' ∧ k' + p ≤ k + p')
/-- a number or a word for one: where it goes on, or where it is wrong -/
def fcs (T : Nat → Int) (L s : Nat) : Nat ⊕ Nat := if (uFacts.any (wqs T L s) || nqs T L s 3) = true then .inl (nxt T L s) else .inr s
set_option maxRecDepth 100000 in
theorem fcs_y {T : Nat → Int} {L s : Nat} (h : (uFacts.any (wqs T L s) || nqs T L s 3) = true) : fcs T L s = .inl (nxt T L s) ∧ facq T L s = some (nxt T L s) := by
  unfold fcs facq
  rw [if_pos h, if_pos h]
  exact ⟨rfl, rfl⟩
set_option maxRecDepth 100000 in
theorem fcs_n {T : Nat → Int} {L s : Nat} (h : ¬ (uFacts.any (wqs T L s) || nqs T L s 3) = true) : fcs T L s = .inr s ∧ facq T L s = none := by
  unfold fcs facq
  rw [if_neg h, if_neg h]
  exact ⟨rfl, rfl⟩
set_option maxRecDepth 100000 in
theorem n_l1 {V : List Int} {u : Option Value} : bLR V [q84, none] [some (.ref 84), u] := ⟨⟨_, rfl, rfl⟩, trivial, trivial⟩
set_option maxRecDepth 100000 in
theorem n_l1s {V : List Int} {ls : zLs} (h : bLR V [q84, none] ls) : ∃ u : Option Value, ls = [some (.ref 84), u] := by
  obtain ⟨l1, e1, k1⟩ := bls_r h
  obtain ⟨u, l2, e2, k2⟩ := bls_n k1
  exact ⟨u, by rw [e1, e2, bls_0 k2]⟩
set_option maxRecDepth 100000 in
theorem n_l1i {V : List Int} {f : bI} {x : Int} {v : Int32} (hf : brel V f x) (hv : v.toInt = x) : bLR V [q84, some (.inl f)] [some (.ref 84), some (.int v)] := ⟨⟨_, rfl, rfl⟩, ⟨_, rfl, v, rfl, by rw [hv]; exact hf⟩, trivial⟩
set_option maxRecDepth 100000 in
theorem n_dp {dp : Nat} (h : dp ≤ 6) : nD.1 ≤ (dp : Int) ∧ (dp : Int) ≤ nD.2 := ⟨by show (0 : Int) ≤ _; omega, by show _ ≤ (6 : Int); omega⟩
set_option maxRecDepth 100000 in
theorem any6 : ∀ b1 b2 b3 b4 b5 b6 : Bool, ((b1 || (b2 || (b3 || (b4 || (b5 || (b6 || false)))))) = true → 0 ≤ (if b1 = true then (0 : Int) else if b2 = true then 1 else if b3 = true then 2 else if b4 = true then 3 else if b5 = true then 4 else if b6 = true then 5 else -1) ∧ (if b1 = true then (0 : Int) else if b2 = true then 1 else if b3 = true then 2 else if b4 = true then 3 else if b5 = true then 4 else if b6 = true then 5 else -1) ≤ 5) ∧ ((b1 || (b2 || (b3 || (b4 || (b5 || (b6 || false)))))) = false → (if b1 = true then (0 : Int) else if b2 = true then 1 else if b3 = true then 2 else if b4 = true then 3 else if b5 = true then 4 else if b6 = true then 5 else -1) = -1) := by decide
set_option maxRecDepth 100000 in
theorem any5 : ∀ b1 b2 b3 b4 b5 : Bool, ((b1 || (b2 || (b3 || (b4 || (b5 || false))))) = true → 0 ≤ (if b1 = true then (0 : Int) else if b2 = true then 1 else if b3 = true then 2 else if b4 = true then 3 else if b5 = true then 4 else -1) ∧ (if b1 = true then (0 : Int) else if b2 = true then 1 else if b3 = true then 2 else if b4 = true then 3 else if b5 = true then 4 else -1) ≤ 4) ∧ ((b1 || (b2 || (b3 || (b4 || (b5 || false))))) = false → (if b1 = true then (0 : Int) else if b2 = true then 1 else if b3 = true then 2 else if b4 = true then 3 else if b5 = true then 4 else -1) = -1) := by decide
set_option maxRecDepth 100000 in
theorem any4 : ∀ b1 b2 b3 b4 : Bool, ((b1 || (b2 || (b3 || (b4 || false)))) = true → 0 ≤ (if b1 = true then (0 : Int) else if b2 = true then 1 else if b3 = true then 2 else if b4 = true then 3 else -1) ∧ (if b1 = true then (0 : Int) else if b2 = true then 1 else if b3 = true then 2 else if b4 = true then 3 else -1) ≤ 3) ∧ ((b1 || (b2 || (b3 || (b4 || false)))) = false → (if b1 = true then (0 : Int) else if b2 = true then 1 else if b3 = true then 2 else if b4 = true then 3 else -1) = -1) := by decide
set_option maxRecDepth 100000 in
theorem q_ltM {h0 : zH} {L s : Nat} (h : kK (tp90 h0) L s ≠ 0) : s < L := by
  by_cases h9 : L ≤ s
  · exact absurd ((kK_0 (T := tp90 h0)).mpr h9) h
  · omega
section MR
variable {E : zE} {B F G : Nat} {h0 h : zH} {L p b k dp : Nat}
set_option maxRecDepth 100000 in
theorem mPart (hE : E.1 < 2147483648) (hE4 : E.1 ≤ 4000) (hsm : bSO E ctb B (60, smT)) (hF : 1000000 ≤ F) (hL : L ≤ 400) (hp : p ≤ L) (hb : b ≤ 400) (hk : k + 1 ≤ p) (hdp : dp ≤ 6) (hr : bRQ ctb wN h0 0 0 h) (ht : MT h L p b k dp) :
    ∀ d f, 62 ≤ d → B + F * 1000 ≤ f → moQ h0 L p k dp (fcs (tp90 h0) L (sk isBl (tp90 h0) L p)) (zex E f d 256 0 [some (.ref 84), none] [] h) := by
  intro d f hd hf
  have hs := sk_le (P := isBl) (T := tp90 h0) hp
  have hsg := sk_ge (P := isBl) (T := tp90 h0) (L := L) (q := p)
  have hdr := n_dp hdp
  obtain ⟨m, hm⟩ : ∃ m, f = m + 2 := ⟨f - 2, by omega⟩
  obtain ⟨d', hd'⟩ : ∃ d', d = d' + 1 := ⟨d - 1, by omega⟩
  subst hd'
  obtain ⟨h1, e1, r1, t1⟩ := x_letters hE hsm hF hL hp hb hr ht d' m (by omega) (by omega)
  rw [hm, xp_0 (q_84 hr) e1]
  -- the end: from 121 on
  have last : ∀ (v : Int32) (h2 : zH) (q : Nat), bRQ ctb wN h0 0 0 h2 → MT h2 L q (sk isBl (tp90 h0) L p) (k + 1) dp → q ≤ L → ((uFacts.any (wqs (tp90 h0) L (sk isBl (tp90 h0) L p)) || nqs (tp90 h0) L (sk isBl (tp90 h0) L p) 3) = true → 0 ≤ v.toInt ∧ v.toInt ≤ 999 ∧ q = kE (tp90 h0) L (sk isBl (tp90 h0) L p)) → (¬ (uFacts.any (wqs (tp90 h0) L (sk isBl (tp90 h0) L p)) || nqs (tp90 h0) L (sk isBl (tp90 h0) L p) 3) = true → v.toInt = -1) → ∀ d f, 62 ≤ d → B + 1000000 ≤ f → moQ h0 L p k dp (fcs (tp90 h0) L (sk isBl (tp90 h0) L p)) (zex E f d 256 121 [some (.ref 84), some (.int v)] [] h2) := by
    intro v h2 q j1 j2 j3 j4 j5 d f hd hf
    by_cases hq : (uFacts.any (wqs (tp90 h0) L (sk isBl (tp90 h0) L p)) || nqs (tp90 h0) L (sk isBl (tp90 h0) L p) 3) = true
    · obtain ⟨v1, v2, v3⟩ := j4 hq
      have hkk : kK (tp90 h0) L (sk isBl (tp90 h0) L p) ≠ 0 := (facq_s (fcs_y hq).2).2
      rw [(fcs_y hq).1]
      obtain ⟨x, h3, x1, x2, x3, x4⟩ := n_fin hE hsm j1 (n_env (x := v.toInt) (y := 0) (ex := (0, 999)) (ey := qz) hL (by omega) (by omega) (by omega) hdr (q_i v1 v2) q_0) bcs_n (n_ov j2) (n_l1i (brel_v rfl) rfl) (ak := []) (st := []) trivial np_121a n_v1 n_v4 d f (by omega) hf
      have hgt := tkE_gt (T := tp90 h0) (L := L) (q := p) hkk
      unfold tkE tkS at hgt
      refine ⟨x, h3, x1, x3, i32_1 (by rw [x2]; rfl), q, _, k + 1, x4, j3, by omega, by rw [v3]; rfl, by rw [v3]; omega, by rw [v3]; omega⟩
    · rw [(fcs_n hq).1]
      obtain ⟨x, h3, x1, x2, x3, x4⟩ := n_fin hE hsm j1 (n_env (x := v.toInt) (y := 0) (ex := (-1, -1)) (ey := qz) hL (by omega) (by omega) (by omega) hdr (q_i (by rw [j5 hq]; decide) (by rw [j5 hq]; decide)) q_0) bcs_n (n_ov j2) (n_l1i (brel_v rfl) rfl) (ak := []) (st := []) trivial np_121b n_v1 n_v4 d f (by omega) hf
      exact ⟨x, h3, x1, x3, i32_0 (by rw [x2]; rfl), x4.2.2.1⟩
  by_cases h2 : kK (tp90 h0) L (sk isBl (tp90 h0) L p) = 2
  · -- letters
    have hne : sk isLt (tp90 h0) L (sk isBl (tp90 h0) L p) ≠ sk isBl (tp90 h0) L p := fun z => lt_2.mp z h2
    have hge := sk_ge (P := isLt) (T := tp90 h0) (L := L) (q := sk isBl (tp90 h0) L p)
    have hle := sk_le (P := isLt) (T := tp90 h0) hs
    have hnq : nqs (tp90 h0) L (sk isBl (tp90 h0) L p) 3 = false := by
      unfold nqs
      rw [decide_eq_false (by omega), Bool.false_and]
    refine n_one hE hsm r1 (n_env (x := 0) (y := 0) (ex := qz) (ey := qz) hL (by omega) (by omega) (by omega) hdr q_0 q_0) (bcs_c rfl (by show 0 ≤ -1 + (1 * (sk isLt (tp90 h0) L (sk isBl (tp90 h0) L p) : Int) + ((-1) * (sk isBl (tp90 h0) L p : Int) + 0)); omega) bcs_n) (n_ov t1) n_l1 (ak := []) (st := []) trivial np_4b rfl n_v1 n_v4 (B' := B + F * 900) (by omega) (fun ls2 g2 i1 i2 i3 d2 f2 hd2 hf2 => ?_) (d' + 1) m (by omega) (by omega)
    obtain ⟨u, u1⟩ := n_l1s i1
    obtain ⟨m2, hm2⟩ : ∃ m2, f2 = m2 + 32 := ⟨f2 - 32, by omega⟩
    obtain ⟨d3, hd3⟩ : ∃ d3, d2 = d3 + 1 := ⟨d2 - 1, by omega⟩
    subst hd3
    obtain ⟨x, g3, m3, w1, w2, w3, w4, w5⟩ := xp_w (u1 := u) hE hsm hL hle i2 hp rfl rfl i3 d3 m2 (by omega) (by omega)
    rw [hm2, u1, w5]
    have hx := any6 (wqs (tp90 h0) L (sk isBl (tp90 h0) L p) [112, 101, 114, 115, 111, 110]) (wqs (tp90 h0) L (sk isBl (tp90 h0) L p) [114, 111, 111, 109]) (wqs (tp90 h0) L (sk isBl (tp90 h0) L p) [108, 111, 97, 100]) (wqs (tp90 h0) L (sk isBl (tp90 h0) L p) [104, 101, 114, 101]) (wqs (tp90 h0) L (sk isBl (tp90 h0) L p) [114, 111, 117, 110, 100]) (wqs (tp90 h0) L (sk isBl (tp90 h0) L p) [112, 97, 114, 116])
    rw [← w1] at hx
    have hx : (uFacts.any (wqs (tp90 h0) L (sk isBl (tp90 h0) L p)) = true → 0 ≤ x.toInt ∧ x.toInt ≤ 5) ∧ (uFacts.any (wqs (tp90 h0) L (sk isBl (tp90 h0) L p)) = false → x.toInt = -1) := hx
    have hxr : -1 ≤ x.toInt ∧ x.toInt ≤ 14 := by
      cases hz : uFacts.any (wqs (tp90 h0) L (sk isBl (tp90 h0) L p)) with
      | true => have := hx.1 hz; omega
      | false => have := hx.2 hz; omega
    obtain ⟨m4, hm4⟩ : ∃ m4, m3 = m4 + 5 := ⟨m3 - 5, by omega⟩
    obtain ⟨g4, e4, r4, t4⟩ := x_emit hE4 w2 w3 (by omega) (x := x) (y := 0) hxr d3 m4 (by omega)
    rw [hm4, xp_114 (q_84 w2) e4]
    refine last x g4 _ r4 t4 hle (fun hq => ?_) (fun hq => ?_) (d3 + 1) m4 (by omega) (by omega)
    · rw [hnq, Bool.or_false] at hq
      have := hx.1 hq
      exact ⟨this.1, by omega, (kE_2 h2).symm⟩
    · rw [hnq, Bool.or_false] at hq
      exact hx.2 (bFls hq)
  · -- none: a number
    have heq : sk isLt (tp90 h0) L (sk isBl (tp90 h0) L p) = sk isBl (tp90 h0) L p := lt_2.mpr h2
    rw [heq] at t1
    have hany : uFacts.any (wqs (tp90 h0) L (sk isBl (tp90 h0) L p)) = false := by
      rw [List.any_eq_false]
      intro w _ z
      exact h2 (wqs_2 z)
    refine n_one hE hsm r1 (n_env (x := 0) (y := 0) (ex := qz) (ey := qz) hL (by omega) (by omega) (by omega) hdr q_0 q_0) (bcs_c rfl (by show 0 ≤ 0 + (1 * (sk isBl (tp90 h0) L p : Int) + ((-1) * (sk isBl (tp90 h0) L p : Int) + 0)); omega) (bcs_c rfl (by show 0 ≤ 0 + ((-1) * (sk isBl (tp90 h0) L p : Int) + (1 * (sk isBl (tp90 h0) L p : Int) + 0)); omega) bcs_n)) (n_ov t1) n_l1 (ak := []) (st := []) trivial np_4a rfl n_v1 n_v4 (B' := B + F * 900) (by omega) (fun ls2 g2 i1 i2 i3 d2 f2 hd2 hf2 => ?_) (d' + 1) m (by omega) (by omega)
    obtain ⟨u, u1⟩ := n_l1s i1
    obtain ⟨m2, hm2⟩ : ∃ m2, f2 = m2 + 11 := ⟨f2 - 11, by omega⟩
    obtain ⟨d3, hd3⟩ : ∃ d3, d2 = d3 + 1 := ⟨d2 - 1, by omega⟩
    subst hd3
    obtain ⟨x, g3, q, e3, y1, y2, y3, r3, t3⟩ := x_figures hE hsm hF hL hs (by omega) i2 i3 d3 (m2 + 6) (by omega) (by omega)
    rw [sk_idem] at y1 y2 t3
    obtain ⟨g4, e4, r4, t4⟩ := x_emit hE4 r3 t3 (by omega) (x := 8) (y := x) ⟨by decide, by decide⟩ d3 (m2 + 1) (by omega)
    rw [hm2, u1, xp_15 (q_84 i2) (q_84 r3) e3 e4]
    refine last x g4 q r4 t4 y3 (fun hq => ?_) (fun hq => ?_) (d3 + 1) m2 (by omega) (by omega)
    · rw [hany, Bool.false_or] at hq
      exact y1 hq
    · rw [hany, Bool.false_or] at hq
      exact y2 (bFls hq)
set_option maxRecDepth 100000 in
theorem mSum9 (hE : E.1 < 2147483648) (hE4 : E.1 ≤ 4000) (hsm : bSO E ctb B (60, smT)) (hF : 1000000 ≤ F) (hG : F * 2000 ≤ G) (hL : L ≤ 400) (hdp : dp ≤ 6) : ∀ (n p b k : Nat) (h : zH), p ≤ L → b ≤ 400 → k + 1 ≤ p → bRQ ctb wN h0 0 0 h → MT h L p b k dp → L < sk isBl (tp90 h0) L p + n →
    ∀ d f, 63 ≤ d → B + G * (n + 1) ≤ f → moQ h0 L p k dp (if sqs (tp90 h0) L (sk isBl (tp90 h0) L p) 43 = true then sumq (tp90 h0) L n (nxt (tp90 h0) L (sk isBl (tp90 h0) L p)) else .inl (sk isBl (tp90 h0) L p)) (zex E f d 257 9 [some (.ref 84)] [] h) := by
  intro n
  induction n with
  | zero =>
    intro p b k h hp hb hk hr ht hn
    have := sk_le (P := isBl) (T := tp90 h0) hp
    omega
  | succ n IH =>
    intro p b k h hp hb hk hr ht hn d f hd hf
    have hmul : G * (n + 1 + 1) = G * (n + 1) + G := Nat.mul_succ G (n + 1)
    have hs := sk_le (P := isBl) (T := tp90 h0) hp
    have hsg := sk_ge (P := isBl) (T := tp90 h0) (L := L) (q := p)
    obtain ⟨m, hm⟩ : ∃ m, f = m + 3 := ⟨f - 3, by omega⟩
    obtain ⟨d', hd'⟩ : ∃ d', d = d' + 1 := ⟨d - 1, by omega⟩
    subst hd'
    obtain ⟨x, h1, e1, q1, r1, t1⟩ := x_sign hE hsm hF hL hp hb hr ht (c := 43) ⟨by decide, by decide⟩ rfl rfl (x := 43) rfl d' m (by omega) (by omega)
    rw [hm, xs_9 (q_84 hr) e1]
    by_cases hq : sqs (tp90 h0) L (sk isBl (tp90 h0) L p) 43 = true
    · rw [if_pos hq] at q1 t1 ⊢
      subst q1
      have hk3 := (sqs_K3.mp hq).1
      have hlt : sk isBl (tp90 h0) L p < L := q_ltM (h0 := h0) (by omega)
      have hnx : nxt (tp90 h0) L (sk isBl (tp90 h0) L p) = sk isBl (tp90 h0) L (sk isBl (tp90 h0) L p + 1) := by
        unfold nxt
        rw [kE_3 hk3]
      rw [hnx]
      obtain ⟨m2, hm2⟩ : ∃ m2, m = m2 + 3 := ⟨m - 3, by omega⟩
      obtain ⟨y, h2, e2, r2, t2⟩ := mPart hE hE4 hsm hF hL (p := sk isBl (tp90 h0) L p + 1) (by omega) (by omega) (by omega) hdp r1 t1 d' m2 (by omega) (by omega)
      rw [hm2, xs_15y (q_84 r1) e2]
      by_cases hf9 : (uFacts.any (wqs (tp90 h0) L (sk isBl (tp90 h0) L (sk isBl (tp90 h0) L p + 1))) || nqs (tp90 h0) L (sk isBl (tp90 h0) L (sk isBl (tp90 h0) L p + 1)) 3) = true
      · rw [(fcs_y hf9).1] at t2
        obtain ⟨y1, p2, b2, k2, t3, u1, u2, u3, u4, u5⟩ := t2
        subst y1
        rw [sumq_p (fcs_y hf9).2]
        obtain ⟨m3, hm3⟩ : ∃ m3, m2 = m3 + 6 := ⟨m2 - 6, by omega⟩
        obtain ⟨h3, e3, r3, t4⟩ := x_emit hE4 r2 t3 (by omega) (x := 9) (y := 0) ⟨by decide, by decide⟩ d' (m3 + 1) (by omega)
        rw [hm3, xs_22y (q_84 r2) e3, ← u3]
        have hgt := (facq_s (fcs_y hf9).2).2
        have hg := nxt_gt (T := tp90 h0) (L := L) sk_idem hgt
        have hs2 := sk_ge (P := isBl) (T := tp90 h0) (L := L) (q := sk isBl (tp90 h0) L p + 1)
        obtain ⟨x9, h9, v1, v2, v3⟩ := IH p2 b2 (k2 + 1) h3 u1 u2 (by omega) r3 t4 (by omega) (d' + 1) m3 (by omega) (by omega)
        refine ⟨x9, h9, v1, v2, ?_⟩
        generalize (if sqs (tp90 h0) L (sk isBl (tp90 h0) L p2) 43 = true then sumq (tp90 h0) L n (nxt (tp90 h0) L (sk isBl (tp90 h0) L p2)) else (.inl (sk isBl (tp90 h0) L p2) : Nat ⊕ Nat)) = o at v3 ⊢
        cases o with
        | inr w => exact v3
        | inl e =>
          obtain ⟨w1, p9, b9, k9, w2, w3, w4, w5, w6, w7⟩ := v3
          exact ⟨w1, p9, b9, k9, w2, w3, w4, w5, by omega, by omega⟩
      · rw [(fcs_n hf9).1] at t2
        obtain ⟨y1, y2⟩ := t2
        subst y1
        rw [sumq_n (fcs_n hf9).2]
        obtain ⟨m3, hm3⟩ : ∃ m3, m2 = m3 + 3 := ⟨m2 - 3, by omega⟩
        rw [hm3, xs_22n]
        exact ⟨0, h2, rfl, r2, rfl, y2⟩
    · rw [if_neg hq] at q1 t1 ⊢
      subst q1
      obtain ⟨m2, hm2⟩ : ∃ m2, m = m2 + 3 := ⟨m - 3, by omega⟩
      rw [hm2, xs_15n]
      exact ⟨1, h1, rfl, r1, rfl, _, _, k, t1, hs, by omega, sk_idem, hsg, by omega⟩
set_option maxRecDepth 100000 in
theorem mSum (hE : E.1 < 2147483648) (hE4 : E.1 ≤ 4000) (hsm : bSO E ctb B (60, smT)) (hF : 1000000 ≤ F) (hG : F * 2000 ≤ G) (hL : L ≤ 400) (hdp : dp ≤ 6) (hp : p ≤ L) (hb : b ≤ 400) (hk : k + 1 ≤ p) (hr : bRQ ctb wN h0 0 0 h) (ht : MT h L p b k dp) :
    ∀ d f, 63 ≤ d → B + G * 402 ≤ f → moQ h0 L p k dp (sumq (tp90 h0) L 401 (sk isBl (tp90 h0) L p)) (zex E f d 257 0 [some (.ref 84)] [] h) := by
  intro d f hd hf
  obtain ⟨N, hN1, hN2⟩ : ∃ N : Nat, 401 = N + 1 ∧ N = 400 := ⟨400, rfl, rfl⟩
  rw [hN1]
  have hmul : G * (N + 1) = G * 401 := by rw [hN2]
  have hmul2 : G * 402 = G * 401 + G := Nat.mul_succ G 401
  have hs := sk_le (P := isBl) (T := tp90 h0) hp
  have hsg := sk_ge (P := isBl) (T := tp90 h0) (L := L) (q := p)
  obtain ⟨m, hm⟩ : ∃ m, f = m + 2 := ⟨f - 2, by omega⟩
  obtain ⟨d', hd'⟩ : ∃ d', d = d' + 1 := ⟨d - 1, by omega⟩
  subst hd'
  obtain ⟨y, h2, e2, r2, t2⟩ := mPart hE hE4 hsm hF hL hp hb hk hdp hr ht d' m (by omega) (by omega)
  rw [hm, xs_0 (q_84 hr) e2]
  by_cases hf9 : (uFacts.any (wqs (tp90 h0) L (sk isBl (tp90 h0) L p)) || nqs (tp90 h0) L (sk isBl (tp90 h0) L p) 3) = true
  · rw [(fcs_y hf9).1] at t2
    obtain ⟨y1, p2, b2, k2, t3, u1, u2, u3, u4, u5⟩ := t2
    subst y1
    rw [sumq_p (fcs_y hf9).2]
    have hg := nxt_gt (T := tp90 h0) (L := L) sk_idem (facq_s (fcs_y hf9).2).2
    obtain ⟨m3, hm3⟩ : ∃ m3, m = m3 + 1 := ⟨m - 1, by omega⟩
    rw [hm3, xs_4y, ← u3]
    obtain ⟨x9, h9, v1, v2, v3⟩ := mSum9 hE hE4 hsm hF hG hL hdp N p2 b2 k2 h2 u1 u2 (by omega) r2 t3 (by omega) (d' + 1) m3 (by omega) (by omega)
    refine ⟨x9, h9, v1, v2, ?_⟩
    generalize (if sqs (tp90 h0) L (sk isBl (tp90 h0) L p2) 43 = true then sumq (tp90 h0) L N (nxt (tp90 h0) L (sk isBl (tp90 h0) L p2)) else (.inl (sk isBl (tp90 h0) L p2) : Nat ⊕ Nat)) = o at v3 ⊢
    cases o with
    | inr w => exact v3
    | inl e =>
      obtain ⟨w1, p9, b9, k9, w2, w3, w4, w5, w6, w7⟩ := v3
      exact ⟨w1, p9, b9, k9, w2, w3, w4, w5, by omega, by omega⟩
  · rw [(fcs_n hf9).1] at t2
    obtain ⟨y1, y2⟩ := t2
    subst y1
    rw [sumq_n (fcs_n hf9).2]
    obtain ⟨m3, hm3⟩ : ∃ m3, m = m3 + 3 := ⟨m - 3, by omega⟩
    rw [hm3, xs_4n]
    exact ⟨0, h2, rfl, r2, rfl, y2⟩
end MR
