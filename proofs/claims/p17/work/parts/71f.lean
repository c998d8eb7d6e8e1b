/-! the model's tag and comparison -/
set_option maxRecDepth 100000 in
theorem moQ_up {h0 : zH} {L p k p2 k2 dp : Nat} {r : Nat ⊕ Nat} {o : Option zR} (h : moQ h0 L p2 k2 dp r o) (h1 : p ≤ p2) (h2 : k2 + p ≤ k + p2) : moQ h0 L p k dp r o := by
  obtain ⟨x, h', e1, e2, e3⟩ := h
  refine ⟨x, h', e1, e2, ?_⟩
  cases r with
  | inr w => exact e3
  | inl e =>
    obtain ⟨w1, p9, b9, k9, w2, w3, w4, w5, w6, w7⟩ := e3
    exact ⟨w1, p9, b9, k9, w2, w3, w4, w5, by omega, by omega⟩
def tgb (T : Nat → Int) (L s : Nat) : Bool := uSorts.any (wqs T L s) || wqs T L s uWet
/-- what readTag leaves -/
def tgQ (h0 : zH) (L p k dp : Nat) (o : Option zR) : Prop := ∃ (x : Int32) (h' : zH), o = some (.inl (some (.int x)), h') ∧ bRQ ctb wN h0 0 0 h' ∧ (tgb (tp90 h0) L (sk isBl (tp90 h0) L p) = true → x = 1 ∧ MT h' L (kE (tp90 h0) L (sk isBl (tp90 h0) L p)) (sk isBl (tp90 h0) L p) (k + 1) dp) ∧ (tgb (tp90 h0) L (sk isBl (tp90 h0) L p) = false → x = 0 ∧ MT h' L (sk isBl (tp90 h0) L p) (sk isBl (tp90 h0) L p) k dp)
section MA
variable {E : zE} {B F G : Nat} {h0 h : zH} {L p b k dp : Nat}
set_option maxRecDepth 100000 in
theorem n_l2 {V : List Int} {u1 u2 : Option Value} : bLR V [q84, none, none] [some (.ref 84), u1, u2] := ⟨⟨_, rfl, rfl⟩, trivial, trivial, trivial⟩
set_option maxRecDepth 100000 in
theorem n_l2a {V : List Int} {f g : bI} {ls : zLs} (h : bLR V [q84, some (.inl f), some (.inl g)] ls) : ∃ x y : Int32, ls = [some (.ref 84), some (.int x), some (.int y)] ∧ x.toInt = bvx V f ∧ y.toInt = bvx V g := by
  obtain ⟨l1, e1, k1⟩ := bls_r h
  obtain ⟨x, l2, e2, g2, k2⟩ := bls_i k1
  obtain ⟨y, l3, e3, g3, k3⟩ := bls_i k2
  exact ⟨x, y, by rw [e1, e2, e3, bls_0 k3], brel_x g2, brel_x g3⟩
set_option maxRecDepth 100000 in
theorem n_l2b {V : List Int} {f : bI} {ls : zLs} (h : bLR V [q84, some (.inl f), none] ls) : ∃ (x : Int32) (u : Option Value), ls = [some (.ref 84), some (.int x), u] ∧ x.toInt = bvx V f := by
  obtain ⟨l1, e1, k1⟩ := bls_r h
  obtain ⟨x, l2, e2, g2, k2⟩ := bls_i k1
  obtain ⟨y, l3, e3, k3⟩ := bls_n k2
  exact ⟨x, y, by rw [e1, e2, e3, bls_0 k3], brel_x g2⟩
set_option maxRecDepth 100000 in
theorem mTag (hE : E.1 < 2147483648) (hE4 : E.1 ≤ 4000) (hsm : bSO E ctb B (60, smT)) (hF : 1000000 ≤ F) (hL : L ≤ 400) (hp : p ≤ L) (hb : b ≤ 400) (hk : k + 1 ≤ p) (hdp : dp ≤ 6) (hr : bRQ ctb wN h0 0 0 h) (ht : MT h L p b k dp) :
    ∀ d f, 63 ≤ d → B + F * 1000 ≤ f → tgQ h0 L p k dp (zex E f d 258 0 [some (.ref 84), none, none] [] h) := by
  intro d f hd hf
  have hs := sk_le (P := isBl) (T := tp90 h0) hp
  have hsg := sk_ge (P := isBl) (T := tp90 h0) (L := L) (q := p)
  have hle := sk_le (P := isLt) (T := tp90 h0) hs
  have hdr := n_dp hdp
  obtain ⟨m, hm⟩ : ∃ m, f = m + 4 := ⟨f - 4, by omega⟩
  obtain ⟨d', hd'⟩ : ∃ d', d = d' + 1 := ⟨d - 1, by omega⟩
  subst hd'
  obtain ⟨h1, e1, r1, t1⟩ := x_letters hE hsm hF hL hp hb hr ht d' (m + 2) (by omega) (by omega)
  obtain ⟨m2, hm2⟩ : ∃ m2, m = m2 + 28 := ⟨m - 28, by omega⟩
  obtain ⟨d2, hd2⟩ : ∃ d2, d' = d2 + 1 := ⟨d' - 1, by omega⟩
  obtain ⟨x, h2, m3, w1, r2, t2, w4, w5⟩ := xo_w hE hsm hL hle r1 hp rfl rfl t1 d2 m2 (by omega) (by omega)
  obtain ⟨m4, hm4⟩ : ∃ m4, m3 = m4 + 1 := ⟨m3 - 1, by omega⟩
  have e2 : zex E m d' 242 0 [some (.ref 84)] [] h1 = some (.inl (some (.int x)), h2) := by rw [hm2, hd2, w5, hm4, xo_66]
  rw [hm, xt_0 (q_84 hr) (q_84 r1) e1 e2]
  have hx := any5 (wqs (tp90 h0) L (sk isBl (tp90 h0) L p) [111, 117, 116]) (wqs (tp90 h0) L (sk isBl (tp90 h0) L p) [115, 116, 111, 110, 101]) (wqs (tp90 h0) L (sk isBl (tp90 h0) L p) [99, 97, 114, 112, 101, 116]) (wqs (tp90 h0) L (sk isBl (tp90 h0) L p) [98, 101, 100]) (wqs (tp90 h0) L (sk isBl (tp90 h0) L p) [100, 114, 97, 105, 110])
  rw [← w1] at hx
  have hx : (uSorts.any (wqs (tp90 h0) L (sk isBl (tp90 h0) L p)) = true → 0 ≤ x.toInt ∧ x.toInt ≤ 4) ∧ (uSorts.any (wqs (tp90 h0) L (sk isBl (tp90 h0) L p)) = false → x.toInt = -1) := hx
  -- the end: from 38 on
  have last : tgb (tp90 h0) L (sk isBl (tp90 h0) L p) = true → ∀ (v y : Int32) (g : zH), y.toInt = 6 ∨ y.toInt = 7 → bRQ ctb wN h0 0 0 g → MT g L (sk isLt (tp90 h0) L (sk isBl (tp90 h0) L p)) (sk isBl (tp90 h0) L p) k dp → ∀ d f, 62 ≤ d → B + F * 10 ≤ f → tgQ h0 L p k dp (zex E f d 258 38 [some (.ref 84), some (.int v), some (.int y)] [] g) := by
    intro htg v y g hy j1 j2 d f hd hf
    have h2 : kK (tp90 h0) L (sk isBl (tp90 h0) L p) = 2 := by
      unfold tgb at htg
      rw [Bool.or_eq_true] at htg
      rcases htg with z | z
      · obtain ⟨u, -, hu⟩ := List.any_eq_true.mp z
        exact wqs_2 hu
      · exact wqs_2 z
    obtain ⟨m, hm⟩ : ∃ m, f = m + 5 := ⟨f - 5, by omega⟩
    obtain ⟨d', hd'⟩ : ∃ d', d = d' + 1 := ⟨d - 1, by omega⟩
    subst hd'
    obtain ⟨h3, e3, r3, t3⟩ := x_emit hE4 j1 j2 (by omega) (x := y) (y := v) (by omega) d' (m + 1) (by omega)
    rw [hm, xt_38 (q_84 j1) e3]
    obtain ⟨x, h4, x1, x2, x3, x4⟩ := n_fin hE hsm r3 (n_env (x := y.toInt) (y := 0) (ex := (6, 7)) (ey := qz) hL (by omega) (by omega) (by omega) hdr (q_i (by omega) (by omega)) q_0) bcs_n (n_ov t3) (show bLR _ [q84, none, kvv 5] [some (.ref 84), some (.int v), some (.int y)] from ⟨⟨_, rfl, rfl⟩, trivial, ⟨_, rfl, y, rfl, brel_v rfl⟩, trivial⟩) (ak := []) (st := []) trivial nt_55 n_v1 n_v4 (d' + 1) m (by omega) (by omega)
    exact ⟨x, h4, x1, x3, fun _ => ⟨i32_1 (by rw [x2]; rfl), by rw [kE_2 h2]; exact x4⟩, fun z => by rw [htg] at z; cases z⟩
  by_cases hso : uSorts.any (wqs (tp90 h0) L (sk isBl (tp90 h0) L p)) = true
  · have hx1 := hx.1 hso
    refine n_one hE hsm r2 (n_env (x := x.toInt) (y := 0) (ex := (0, 4)) (ey := qz) hL (by omega) (by omega) (by omega) hdr (q_i hx1.1 hx1.2) q_0) bcs_n (n_ov t2) n_l2 (show bKR _ [.inl (mv 5)] [.int x] from ⟨⟨x, rfl, brel_v rfl⟩, trivial⟩) nt_8a rfl n_v1 n_v4 (B' := B + F * 10) (by omega) (fun ls2 g2 i1 i2 i3 d3 f3 hd3 hf3 => ?_) (d' + 1) m (by omega) (by omega)
    obtain ⟨v, y, l1, l2, l3⟩ := n_l2a i1
    rw [l1]
    exact last (by unfold tgb; rw [hso, Bool.true_or]) v y g2 (Or.inl (by rw [l3, bvx_k])) i2 i3 d3 f3 hd3 hf3
  · have hso := bFls hso
    refine n_one hE hsm r2 (n_env (x := 0) (y := 0) (ex := qz) (ey := qz) hL (by omega) (by omega) (by omega) hdr q_0 q_0) bcs_n (n_ov t2) n_l2 (q_c (hx.2 hso)) nt_8b rfl n_v1 n_v4 (B' := B + F * 50) (by omega) (fun ls2 g2 i1 i2 i3 d3 f3 hd3 hf3 => ?_) (d' + 1) m (by omega) (by omega)
    obtain ⟨v, u, l1, l2⟩ := n_l2b i1
    rw [bvx_k] at l2
    obtain ⟨m5, hm5⟩ : ∃ m5, f3 = m5 + 3 := ⟨f3 - 3, by omega⟩
    obtain ⟨d4, hd4⟩ : ∃ d4, d3 = d4 + 1 := ⟨d3 - 1, by omega⟩
    subst hd4
    obtain ⟨y, g3, e3, q3, r3, t3⟩ := x_word hE hsm hL hle i2 hp rfl rfl i3 (w := 35) (u := uWet) (by decide) (by decide) d4 m5 (by omega) (by omega)
    rw [hm5, l1, xt_18 (q_84 i2) e3]
    have hl : ∀ {V : List Int}, bLR V [q84, kcc (-1), none] [some (.ref 84), some (.int v), u] := ⟨⟨_, rfl, rfl⟩, ⟨_, rfl, v, rfl, by rw [l2]; exact brel_c _ (-1)⟩, trivial, trivial⟩
    by_cases hwt : wqs (tp90 h0) L (sk isBl (tp90 h0) L p) uWet = true
    · rw [if_pos hwt] at q3
      subst q3
      refine n_one hE hsm r3 (n_env (x := 0) (y := 0) (ex := qz) (ey := qz) hL (by omega) (by omega) (by omega) hdr q_0 q_0) bcs_n (n_ov t3) hl (q_c (c := 1) rfl) nt_24a rfl n_v1 n_v4 (B' := B + F * 10) (by omega) (fun ls4 g4 i4 i5 i6 d5 f5 hd5 hf5 => ?_) (d4 + 1) m5 (by omega) (by omega)
      obtain ⟨v2, y2, o1, o2, o3⟩ := n_l2a i4
      rw [o1]
      exact last (by unfold tgb; rw [hwt, Bool.or_true]) v2 y2 g4 (Or.inr (by rw [o3, bvx_k])) i5 i6 d5 f5 hd5 hf5
    · rw [if_neg hwt] at q3
      subst q3
      have hft : tgb (tp90 h0) L (sk isBl (tp90 h0) L p) = false := by
        unfold tgb
        rw [hso, bFls hwt]
        rfl
      obtain ⟨x9, h4, x1, x2, x3, x4⟩ := n_fin hE hsm r3 (n_env (x := 0) (y := 0) (ex := qz) (ey := qz) hL (by omega) (by omega) (by omega) hdr q_0 q_0) bcs_n (n_ov t3) hl (st := [.int 0]) (q_c (c := 0) rfl) nt_24b n_v2 n_v4 (d4 + 1) m5 (by omega) (by omega)
      exact ⟨x9, h4, x1, x3, (fun z => by rw [hft] at z; cases z), fun _ => ⟨i32_0 (by rw [x2]; rfl), x4⟩⟩
set_option maxRecDepth 100000 in
theorem mCmp (hE : E.1 < 2147483648) (hE4 : E.1 ≤ 4000) (hsm : bSO E ctb B (60, smT)) (hF : 1000000 ≤ F) (hG : F * 2000 ≤ G) (hL : L ≤ 400) (hp : p ≤ L) (hb : b ≤ 400) (hk : k + 1 ≤ p) (hdp : dp ≤ 6) (hr : bRQ ctb wN h0 0 0 h) (ht : MT h L p b k dp) {u1 : Option Value} :
    ∀ d f, 64 ≤ d → B + G * 403 ≤ f → moQ h0 L p k dp (cmpq (tp90 h0) L 401 (sk isBl (tp90 h0) L p)) (zex E f d 259 118 [some (.ref 84), u1] [.int 0] h) := by
  intro d f hd hf
  have hmul : G * 403 = G * 402 + G := Nat.mul_succ G 402
  have hs := sk_le (P := isBl) (T := tp90 h0) hp
  obtain ⟨m, hm⟩ : ∃ m, f = m + 3 := ⟨f - 3, by omega⟩
  obtain ⟨d', hd'⟩ : ∃ d', d = d' + 1 := ⟨d - 1, by omega⟩
  subst hd'
  obtain ⟨x, h1, e1, r1, t1⟩ := mSum hE hE4 hsm hF hG hL hdp hp hb hk hr ht d' m (by omega) (by omega)
  rw [hm, xa_118n (q_84 hr) e1]
  cases hq : sumq (tp90 h0) L 401 (sk isBl (tp90 h0) L p) with
  | inr w =>
    rw [hq] at t1
    obtain ⟨t2, t3⟩ := t1
    subst t2
    rw [cmpq_r hq]
    obtain ⟨m3, hm3⟩ : ∃ m3, m = m3 + 3 := ⟨m - 3, by omega⟩
    rw [hm3, xa_127n]
    exact ⟨0, h1, rfl, r1, rfl, t3⟩
  | inl e =>
    rw [hq] at t1
    obtain ⟨t2, p2, b2, k2, t3, u1, u2, u3, u4, u5⟩ := t1
    subst t2
    rw [cmpq_i hq]
    have hge := sk_ge (P := isBl) (T := tp90 h0) (L := L) (q := p2)
    have hle := sk_le (P := isBl) (T := tp90 h0) u1
    subst u3
    -- behind the sign
    have behind : ∀ (c9 : Int) (z : Int32) (g : zH), sqs (tp90 h0) L (sk isBl (tp90 h0) L p2) c9 = true → (z = 0 ∨ z = 1) → bRQ ctb wN h0 0 0 g → MT g L (sk isBl (tp90 h0) L p2 + 1) (sk isBl (tp90 h0) L p2) k2 dp → ∀ d f (v : Int32) (h2 : zH), moQ h0 L (sk isBl (tp90 h0) L p2 + 1) k2 dp (sumq (tp90 h0) L 401 (nxt (tp90 h0) L (sk isBl (tp90 h0) L p2))) (some (.inl (some (.int v)), h2)) → B + F * 10 ≤ f → moQ h0 L p k dp (sumq (tp90 h0) L 401 (nxt (tp90 h0) L (sk isBl (tp90 h0) L p2))) (zex E f (d + 1) 259 156 [some (.ref 84), some (.int z)] [.int v] h2) := by
      intro c9 z g hc9 hz j1 j2 d f v h2 hv hf
      obtain ⟨v9, h9, o1, o2, o3⟩ := hv
      cases o1
      cases hq2 : sumq (tp90 h0) L 401 (nxt (tp90 h0) L (sk isBl (tp90 h0) L p2)) with
      | inr w =>
        rw [hq2] at o3
        obtain ⟨o3, o4⟩ := o3
        subst o3
        obtain ⟨m3, hm3⟩ : ∃ m3, f = m3 + 3 := ⟨f - 3, by omega⟩
        rw [hm3, xa_156n]
        exact ⟨0, h2, rfl, o2, rfl, o4⟩
      | inl e2 =>
        rw [hq2] at o3
        obtain ⟨o3, p3, b3, k3, o4, o5, o6, o7, o8, o9⟩ := o3
        subst o3
        obtain ⟨m3, hm3⟩ : ∃ m3, f = m3 + 10 := ⟨f - 10, by omega⟩
        rcases hz with rfl | rfl
        · obtain ⟨h3, e3, r3, t4⟩ := x_emit hE4 o2 o4 (by omega) (x := 11) (y := 0) ⟨by decide, by decide⟩ d (m3 + 1 + 2) (by omega)
          rw [hm3, show m3 + 10 = m3 + 1 + 9 by omega, xa_156y0 (q_84 o2) e3]
          exact ⟨1, h3, rfl, r3, rfl, p3, b3, k3 + 1, t4, o5, o6, o7, by omega, by omega⟩
        · obtain ⟨h3, e3, r3, t4⟩ := x_emit hE4 o2 o4 (by omega) (x := 10) (y := 0) ⟨by decide, by decide⟩ d (m3 + 2) (by omega)
          rw [hm3, xa_156y1 (q_84 o2) e3]
          exact ⟨1, h3, rfl, r3, rfl, p3, b3, k3 + 1, t4, o5, o6, o7, by omega, by omega⟩
    have hnx : ∀ {c9 : Int}, sqs (tp90 h0) L (sk isBl (tp90 h0) L p2) c9 = true → nxt (tp90 h0) L (sk isBl (tp90 h0) L p2) = sk isBl (tp90 h0) L (sk isBl (tp90 h0) L p2 + 1) ∧ sk isBl (tp90 h0) L p2 < L := by
      intro c9 hc9
      have hk3 := (sqs_K3.mp hc9).1
      refine ⟨?_, q_ltM (h0 := h0) (by omega)⟩
      unfold nxt
      rw [kE_3 hk3]
    obtain ⟨m4, hm4⟩ : ∃ m4, m = m4 + 4 := ⟨m - 4, by omega⟩
    obtain ⟨y, h2, e2, q2, r2, t4⟩ := x_sign hE hsm hF hL u1 u2 r1 t3 (c := 60) ⟨by decide, by decide⟩ rfl rfl (x := 60) rfl d' m4 (by omega) (by omega)
    rw [hm4, xa_127y (q_84 r1) e2]
    by_cases h60 : sqs (tp90 h0) L (sk isBl (tp90 h0) L p2) 60 = true
    · rw [if_pos h60] at q2 t4
      subst q2
      rw [h60, Bool.true_or, if_pos rfl]
      obtain ⟨n1, n2⟩ := hnx h60
      obtain ⟨m5, hm5⟩ : ∃ m5, m4 = m5 + 5 := ⟨m4 - 5, by omega⟩
      have hS := mSum hE hE4 hsm hF hG hL hdp (p := sk isBl (tp90 h0) L p2 + 1) (by omega) (by omega) (by omega) r2 t4 d' m5 (by omega) (by omega)
      rw [← n1] at hS
      have hS2 := hS
      obtain ⟨v, h3, e3, -, -⟩ := hS2
      rw [e3] at hS
      rw [hm5, xa_138y (q_84 r2) e3]
      exact behind 60 1 h2 h60 (Or.inr rfl) r2 t4 d' m5 v h3 hS (by omega)
    · rw [if_neg h60] at q2 t4
      subst q2
      have h60 := bFls h60
      rw [h60, Bool.false_or]
      obtain ⟨m5, hm5⟩ : ∃ m5, m4 = m5 + 6 := ⟨m4 - 6, by omega⟩
      obtain ⟨y, h3, e3, q3, r3, t5⟩ := x_sign hE hsm hF hL hle (by omega) r2 t4 (c := 62) ⟨by decide, by decide⟩ rfl rfl (x := 62) rfl d' m5 (by omega) (by omega)
      rw [sk_idem] at q3 t5
      rw [hm5, xa_138n (q_84 r2) e3]
      by_cases h62 : sqs (tp90 h0) L (sk isBl (tp90 h0) L p2) 62 = true
      · rw [if_pos h62] at q3 t5 ⊢
        subst q3
        obtain ⟨n1, n2⟩ := hnx h62
        obtain ⟨m6, hm6⟩ : ∃ m6, m5 = m6 + 3 := ⟨m5 - 3, by omega⟩
        have hS := mSum hE hE4 hsm hF hG hL hdp (p := sk isBl (tp90 h0) L p2 + 1) (by omega) (by omega) (by omega) r3 t5 d' m6 (by omega) (by omega)
        rw [← n1] at hS
        have hS2 := hS
        obtain ⟨v, h4, e4, -, -⟩ := hS2
        rw [e4] at hS
        rw [hm6, xa_149y (q_84 r3) e4]
        exact behind 62 0 h3 h62 (Or.inl rfl) r3 t5 d' m6 v h4 hS (by omega)
      · rw [if_neg h62] at q3 t5 ⊢
        subst q3
        obtain ⟨m6, hm6⟩ : ∃ m6, m5 = m6 + 3 := ⟨m5 - 3, by omega⟩
        rw [hm6, xa_149n]
        exact ⟨0, h3, rfl, r3, rfl, t5.2.2.1⟩
end MA
