/-- what figures answers, of the figures from b to p -/
def fgR (p b mo : Nat) (v lo hi : Int) : Int := if p = b then -1 else if mo < p - b then -1 else if v < lo then -1 else if hi < v then -1 else v
set_option maxRecDepth 100000 in
theorem zf240_0 : zfetch 240 0 = some (.aload_n 0, 1, (0, 0, 0), 0, 0) := by decide +kernel
set_option maxRecDepth 100000 in
theorem zf240_1 : zfetch 240 1 = some (.invokevirtual 97, 3, (0, 235, 0), 0, 1711) := by decide +kernel
section MG2
variable {E : zE} {B F : Nat} {h0 h : zH} {L p b mo : Nat} {lo hi : Int}
set_option maxRecDepth 100000 in
theorem mg_v1 {y v : Int} : bvx [(L : Int), (p : Int), (b : Int), y, v, lo, hi, (mo : Int)] (mv 1) = (p : Int) := by unfold mv; rw [bvx_v]; rfl
set_option maxRecDepth 100000 in
theorem mg_v4 {y v : Int} : bvx [(L : Int), (p : Int), (b : Int), y, v, lo, hi, (mo : Int)] (mv 4) = v := by unfold mv; rw [bvx_v]; rfl
set_option maxRecDepth 100000 in
theorem mg_vf {y v : Int} : bvx [(L : Int), (p : Int), (b : Int), y, v, lo, hi, (mo : Int)] mf1 = ((p + 1 : Nat) : Int) := by
  show 1 + (1 * (p : Int) + 0) = ((p + 1 : Nat) : Int)
  omega
set_option maxRecDepth 100000 in
theorem mg_end (hE : E.1 < 2147483648) (hsm : bSO E ctb B (60, smT)) (hr : bRQ ctb wM h0 0 0 h) (hL : L ≤ 400) (hp : p ≤ 400) (hbp : b ≤ p) (hlo : -2147483648 ≤ lo ∧ lo ≤ 2147483647) (hhi : -2147483648 ≤ hi ∧ hi ≤ 2147483647) (hm : 3 ≤ mo ∧ mo ≤ 5) {v : Int} (hv : 0 ≤ v ∧ v ≤ 99999) (p1 : (h.2.1 84 11).toInt = (L : Int)) (p2 : (h.2.1 84 10).toInt = (p : Int)) (p3 : (h.2.1 84 12).toInt = (b : Int))
    {x1 x2 x3 x4 : Int32} (g1 : x1.toInt = lo) (g2 : x2.toInt = hi) (g3 : x3.toInt = (mo : Int)) (g4 : x4.toInt = v) : ∀ d f, 60 ≤ d → B + 1000000 ≤ f → mvQ h0 L p b (fgR p b mo v lo hi) (zex E f d 240 69 [some (.ref 84), some (.int x1), some (.int x2), some (.int x3), some (.int x4)] [] h) := by
  intro d f hd hf
  have env : benv [(L : Int), (p : Int), (b : Int), 0, v, lo, hi, (mo : Int)] (mgE (0, 0) V5) := mg_env hL hp (by omega) ⟨Int.le_refl _, Int.le_refl _⟩ hv hlo hhi hm
  have al := mg_al (L := L) (p := p) (b := b) (y := 0) g1 g2 g3 g4
  have ov := mg_o (E := E) (y := 0) (v := v) (lo := lo) (hi := hi) (mo := mo) p1 p2 p3
  unfold fgR
  by_cases c1 : p = b
  · rw [if_pos c1]
    exact mg_fin hE hsm hr env (bcs_c rfl (by show 0 ≤ 0 + (1 * (p : Int) + ((-1) * (b : Int) + 0)); omega) (bcs_c rfl (by show 0 ≤ 0 + ((-1) * (p : Int) + (1 * (b : Int) + 0)); omega) bcs_n)) ov al mg_6 bvx_k d f hd hf
  · rw [if_neg c1]
    have k1 : 0 ≤ bvx [(L : Int), (p : Int), (b : Int), 0, v, lo, hi, (mo : Int)] (-1, [(1, 1), (2, -1)]) := by
      show 0 ≤ -1 + (1 * (p : Int) + ((-1) * (b : Int) + 0))
      omega
    by_cases c2 : mo < p - b
    · rw [if_pos c2]
      exact mg_fin hE hsm hr env (bcs_c rfl k1 (bcs_c rfl (by show 0 ≤ -1 + (1 * (p : Int) + ((-1) * (b : Int) + ((-1) * (mo : Int) + 0))); omega) bcs_n)) ov al mg_7 bvx_k d f hd hf
    · rw [if_neg c2]
      have k2 : 0 ≤ bvx [(L : Int), (p : Int), (b : Int), 0, v, lo, hi, (mo : Int)] (0, [(1, -1), (2, 1), (7, 1)]) := by
        show 0 ≤ 0 + ((-1) * (p : Int) + (1 * (b : Int) + (1 * (mo : Int) + 0)))
        omega
      by_cases c3 : v < lo
      · rw [if_pos c3]
        exact mg_fin hE hsm hr env (bcs_c rfl k1 (bcs_c rfl k2 (bcs_c rfl (by show 0 ≤ -1 + ((-1) * v + (1 * lo + 0)); omega) bcs_n))) ov al mg_8 bvx_k d f hd hf
      · rw [if_neg c3]
        have k3 : 0 ≤ bvx [(L : Int), (p : Int), (b : Int), 0, v, lo, hi, (mo : Int)] (0, [(4, 1), (5, -1)]) := by
          show 0 ≤ 0 + (1 * v + ((-1) * lo + 0))
          omega
        by_cases c4 : hi < v
        · rw [if_pos c4]
          exact mg_fin hE hsm hr env (bcs_c rfl k1 (bcs_c rfl k2 (bcs_c rfl k3 (bcs_c rfl (by show 0 ≤ -1 + (1 * v + ((-1) * hi + 0)); omega) bcs_n)))) ov al mg_9 bvx_k d f hd hf
        · rw [if_neg c4]
          exact mg_fin hE hsm hr env (bcs_c rfl k1 (bcs_c rfl k2 (bcs_c rfl k3 (bcs_c rfl (by show 0 ≤ 0 + ((-1) * v + (1 * hi + 0)); omega) bcs_n)))) ov al mg_10 mg_v4 d f hd hf
set_option maxRecDepth 100000 in
theorem mg_loop (hE : E.1 < 2147483648) (hsm : bSO E ctb B (60, smT)) (hF : 1000000 ≤ F) (hL : L ≤ 400) (hlo : -2147483648 ≤ lo ∧ lo ≤ 2147483647) (hhi : -2147483648 ≤ hi ∧ hi ≤ 2147483647) (hm : 3 ≤ mo ∧ mo ≤ 5) : ∀ (m p : Nat) (h : zH) (x1 x2 x3 x4 : Int32), L ≤ p + m → p ≤ L → b ≤ p → (∀ i, i < p - b → 48 ≤ tp90 h0 (b + i) ∧ tp90 h0 (b + i) ≤ 57) → bRQ ctb wM h0 0 0 h → (h.2.1 84 11).toInt = (L : Int) → (h.2.1 84 10).toInt = (p : Int) → (h.2.1 84 12).toInt = (b : Int) → x1.toInt = lo → x2.toInt = hi → x3.toInt = (mo : Int) → x4.toInt = vln (tp90 h0) b (min mo (p - b)) →
    ∀ d f, 60 ≤ d → B + F * (m + 2) ≤ f → mvQ h0 L (sk isDg (tp90 h0) L p) b (fgR (sk isDg (tp90 h0) L p) b mo (vln (tp90 h0) b (min mo (sk isDg (tp90 h0) L p - b))) lo hi) (zex E f d 240 7 [some (.ref 84), some (.int x1), some (.int x2), some (.int x3), some (.int x4)] [] h) := by
  intro m
  have out : ∀ (p : Nat) (h : zH) (x1 x2 x3 x4 : Int32), p ≤ L → (p < L → isDg (tp90 h0 p) = false) → b ≤ p → (∀ i, i < p - b → 48 ≤ tp90 h0 (b + i) ∧ tp90 h0 (b + i) ≤ 57) → bRQ ctb wM h0 0 0 h → (h.2.1 84 11).toInt = (L : Int) → (h.2.1 84 10).toInt = (p : Int) → (h.2.1 84 12).toInt = (b : Int) → x1.toInt = lo → x2.toInt = hi → x3.toInt = (mo : Int) → x4.toInt = vln (tp90 h0) b (min mo (p - b)) →
      ∀ d f, 60 ≤ d → B + F + F ≤ f → mvQ h0 L (sk isDg (tp90 h0) L p) b (fgR (sk isDg (tp90 h0) L p) b mo (vln (tp90 h0) b (min mo (sk isDg (tp90 h0) L p - b))) lo hi) (zex E f d 240 7 [some (.ref 84), some (.int x1), some (.int x2), some (.int x3), some (.int x4)] [] h) := by
    intro p h x1 x2 x3 x4 hp hn hbp hdg hr p1 p2 p3 g1 g2 g3 g4 d f hd hf
    rw [sk_e hn]
    have hvb := vln_5 (min mo (p - b)) (fun i hi => hdg i (by omega)) (by omega)
    have hf1 : B + F + 1000000 ≤ f := by omega
    have nxt : ∀ (y : Int) h' (x1 x2 x3 x4 : Int32), x1.toInt = lo → x2.toInt = hi → x3.toInt = (mo : Int) → x4.toInt = bvx [(L : Int), (p : Int), (b : Int), y, vln (tp90 h0) b (min mo (p - b)), lo, hi, (mo : Int)] (mv 4) → bRQ ctb wM h0 0 0 h' → (h'.2.1 84 11).toInt = (L : Int) → (h'.2.1 84 10).toInt = bvx [(L : Int), (p : Int), (b : Int), y, vln (tp90 h0) b (min mo (p - b)), lo, hi, (mo : Int)] (mv 1) → (h'.2.1 84 12).toInt = (b : Int) → ∀ d f, 60 ≤ d → B + F ≤ f → mvQ h0 L p b (fgR p b mo (vln (tp90 h0) b (min mo (p - b))) lo hi) (zex E f d 240 69 [some (.ref 84), some (.int x1), some (.int x2), some (.int x3), some (.int x4)] [] h') := by
      intro y h' x1 x2 x3 x4 j1 j2 j3 j4 k1 q1 q2 q3 d f hd hf
      rw [mg_v4] at j4
      rw [mg_v1] at q2
      exact mg_end hE hsm k1 hL (by omega) hbp hlo hhi hm ⟨hvb.1, hvb.2.1⟩ q1 q2 q3 j1 j2 j3 j4 d f hd (by omega)
    by_cases hlt : p < L
    · have hbb := hr.1.1 90 p
      rw [biv90] at hbb
      have hb1 : -128 ≤ (h.2.1 90 p).toInt := hbb.1
      have hb2 : (h.2.1 90 p).toInt ≤ 127 := hbb.2
      have hT : tp90 h0 p = (h.2.1 90 p).toInt := by unfold tp90; rw [wM_90 hr]
      have hn2 : ¬ (48 ≤ (h.2.1 90 p).toInt ∧ (h.2.1 90 p).toInt ≤ 57) := by
        intro z
        have := isDg_s.mpr z
        rw [← hT, hn hlt] at this
        cases this
      have hcs : ∀ y, bcs [(L : Int), (p : Int), (b : Int), y, vln (tp90 h0) b (min mo (p - b)), lo, hi, (mo : Int)] [mlt] := fun y => bcs_c rfl (by show 0 ≤ -1 + (1 * (L : Int) + ((-1) * (p : Int) + 0)); omega) bcs_n
      by_cases hlo9 : (h.2.1 90 p).toInt ≤ 47
      · exact mg_one hE hsm hr (yb := (-128, 47)) (vb := V5) (mg_env hL (by omega) (by omega) ⟨hb1, hlo9⟩ ⟨hvb.1, hvb.2.1⟩ hlo hhi hm) (hcs _) (bov_app (mg_o p1 p2 p3) (mg_oB rfl)) (mg_al g1 g2 g3 g4) mg_4 (B' := B + F) (Nat.le_add_right _ _) (nxt _) d f hd hf1
      · exact mg_one hE hsm hr (yb := (58, 127)) (vb := V5) (mg_env hL (by omega) (by omega) ⟨by show (58 : Int) ≤ _; omega, hb2⟩ ⟨hvb.1, hvb.2.1⟩ hlo hhi hm) (hcs _) (bov_app (mg_o p1 p2 p3) (mg_oB rfl)) (mg_al g1 g2 g3 g4) mg_5 (B' := B + F) (Nat.le_add_right _ _) (nxt _) d f hd hf1
    · exact mg_one hE hsm hr (y := 0) (yb := (0, 0)) (vb := V5) (mg_env hL (by omega) (by omega) ⟨Int.le_refl _, Int.le_refl _⟩ ⟨hvb.1, hvb.2.1⟩ hlo hhi hm) (bcs_c rfl (by show 0 ≤ 0 + ((-1) * (L : Int) + (1 * (p : Int) + 0)); omega) bcs_n) (mg_o p1 p2 p3) (mg_al g1 g2 g3 g4) mg_3 (B' := B + F) (Nat.le_add_right _ _) (nxt 0) d f hd hf1
  induction m with
  | zero =>
    intro p h x1 x2 x3 x4 hm9 hp hbp hdg hr p1 p2 p3 g1 g2 g3 g4 d f hd hf
    have hmul : F * (0 + 2) = F + F := by rw [Nat.zero_add, Nat.mul_comm, Nat.two_mul]
    exact out p h x1 x2 x3 x4 hp (fun z => by omega) hbp hdg hr p1 p2 p3 g1 g2 g3 g4 d f hd (by omega)
  | succ m ih =>
    intro p h x1 x2 x3 x4 hm9 hp hbp hdg hr p1 p2 p3 g1 g2 g3 g4 d f hd hf
    have hmul : F * (m + 1 + 2) = F * (m + 2) + F := Nat.mul_succ F (m + 2)
    have hmul2 : F * (m + 2) = F * (m + 1) + F := Nat.mul_succ F (m + 1)
    have hf1 : B + F * (m + 2) + 1000000 ≤ f := by omega
    have hf2 : B + F + F ≤ f := by omega
    by_cases hn : p < L → isDg (tp90 h0 p) = false
    · exact out p h x1 x2 x3 x4 hp hn hbp hdg hr p1 p2 p3 g1 g2 g3 g4 d f hd hf2
    · have hlt : p < L := by
        by_cases z : p < L
        · exact z
        · exact absurd (fun z2 => absurd z2 z) hn
      have hy : isDg (tp90 h0 p) = true := by
        cases hz : isDg (tp90 h0 p) with
        | true => rfl
        | false => exact absurd (fun _ => hz) hn
      have hT : tp90 h0 p = (h.2.1 90 p).toInt := by unfold tp90; rw [wM_90 hr]
      have hl2 := isDg_s.mp hy
      have hvb := vln_5 (min mo (p - b)) (fun i hi => hdg i (by omega)) (by omega)
      have hd1 : ∀ i, i < p + 1 - b → 48 ≤ tp90 h0 (b + i) ∧ tp90 h0 (b + i) ≤ 57 := by
        intro i hi
        by_cases hi2 : i < p - b
        · exact hdg i hi2
        · rw [show b + i = p by omega]; exact hl2
      rw [hT] at hl2
      rw [sk_s hlt hy]
      by_cases h8 : p - b < mo
      · have hm1 : min mo (p - b) = p - b := by omega
        have hm2 : min mo (p + 1 - b) = (p - b) + 1 := by omega
        refine mg_one hE hsm hr (y := (h.2.1 90 p).toInt) (yb := (48, 57)) (vb := (0, 9999)) (mg_env hL (by omega) (by omega) hl2 ⟨hvb.1, hvb.2.2 (by omega)⟩ hlo hhi hm) (bcs_c rfl (by show 0 ≤ -1 + (1 * (L : Int) + ((-1) * (p : Int) + 0)); omega) (bcs_c rfl (by show 0 ≤ -1 + ((-1) * (p : Int) + (1 * (b : Int) + (1 * (mo : Int) + 0))); omega) bcs_n)) (bov_app (mg_o p1 p2 p3) (mg_oB rfl)) (mg_al g1 g2 g3 g4) mg_1 (B' := B + F * (m + 2)) (Nat.le_add_right _ _) ?_ d f hd hf1
        intro h' y1 y2 y3 y4 j1 j2 j3 j4 k1 q1 q2 q3 d f hd hf
        rw [mg_vf] at q2
        refine ih (p + 1) h' y1 y2 y3 y4 (by omega) (by omega) (by omega) hd1 k1 q1 q2 q3 j1 j2 j3 ?_ d f hd hf
        have j4 : y4.toInt = -48 + (1 * (h.2.1 90 p).toInt + (10 * vln (tp90 h0) b (min mo (p - b)) + 0)) := j4
        rw [j4, hm2]
        show _ = 10 * vln (tp90 h0) b (p - b) + (tp90 h0 (b + (p - b)) - 48)
        rw [show b + (p - b) = p by omega, hT, hm1]
        omega
      · have hm1 : min mo (p - b) = mo := by omega
        have hm2 : min mo (p + 1 - b) = mo := by omega
        refine mg_one hE hsm hr (y := (h.2.1 90 p).toInt) (yb := (48, 57)) (vb := V5) (mg_env hL (by omega) (by omega) hl2 ⟨hvb.1, hvb.2.1⟩ hlo hhi hm) (bcs_c rfl (by show 0 ≤ -1 + (1 * (L : Int) + ((-1) * (p : Int) + 0)); omega) (bcs_c rfl (by show 0 ≤ 0 + (1 * (p : Int) + ((-1) * (b : Int) + ((-1) * (mo : Int) + 0))); omega) bcs_n)) (bov_app (mg_o p1 p2 p3) (mg_oB rfl)) (mg_al g1 g2 g3 g4) mg_2 (B' := B + F * (m + 2)) (Nat.le_add_right _ _) ?_ d f hd hf1
        intro h' y1 y2 y3 y4 j1 j2 j3 j4 k1 q1 q2 q3 d f hd hf
        rw [mg_vf] at q2
        rw [mg_v4] at j4
        exact ih (p + 1) h' y1 y2 y3 y4 (by omega) (by omega) (by omega) hd1 k1 q1 q2 q3 j1 j2 j3 (by rw [j4, hm1, hm2]) d f hd hf
set_option maxRecDepth 100000 in
theorem m_figures (hE : E.1 < 2147483648) (hsm : bSO E ctb B (60, smT)) (hF : 1000000 ≤ F) (hL : L ≤ 400) (hp : p ≤ L) (hb : b ≤ 400) (hr : bRQ ctb wM h0 0 0 h) (p1 : (h.2.1 84 11).toInt = (L : Int)) (p2 : (h.2.1 84 10).toInt = (p : Int)) (p3 : (h.2.1 84 12).toInt = (b : Int)) (hlo : -2147483648 ≤ lo ∧ lo ≤ 2147483647) (hhi : -2147483648 ≤ hi ∧ hi ≤ 2147483647) (hm : 3 ≤ mo ∧ mo ≤ 5) {x1 x2 x3 : Int32} (g1 : x1.toInt = lo) (g2 : x2.toInt = hi) (g3 : x3.toInt = (mo : Int)) :
    ∀ d f, 61 ≤ d → B + F * 404 ≤ f → mvQ h0 L (sk isDg (tp90 h0) L (sk isBl (tp90 h0) L p)) (sk isBl (tp90 h0) L p) (fgR (sk isDg (tp90 h0) L (sk isBl (tp90 h0) L p)) (sk isBl (tp90 h0) L p) mo (vln (tp90 h0) (sk isBl (tp90 h0) L p) (min mo (sk isDg (tp90 h0) L (sk isBl (tp90 h0) L p) - sk isBl (tp90 h0) L p))) lo hi) (zex E f d 240 0 [some (.ref 84), some (.int x1), some (.int x2), some (.int x3), none] [] h) := by
  intro d f hd hf
  have hmul : F * 404 = F * 402 + F + F := by rw [show 404 = 402 + 1 + 1 from rfl, Nat.mul_succ, Nat.mul_succ]
  have hmul2 : F * 402 = F * 401 + F := Nat.mul_succ F 401
  obtain ⟨n, hn⟩ : ∃ n, f = n + 2 := ⟨f - 2, by omega⟩
  obtain ⟨d', hd'⟩ : ∃ d', d = d' + 1 := ⟨d - 1, by omega⟩
  subst hd'
  obtain ⟨h1, e1, k1, k2, k3, k4⟩ := m_blanks hE hsm hF hL hp hb hr p1 p2 p3 d' n (by omega) (by omega)
  have ha := hr.2.2.1 84 _ cs84 (by intro z; cases z)
  have e2 : zex E (n + 2) (d' + 1) 240 0 [some (.ref 84), some (.int x1), some (.int x2), some (.int x3), none] [] h = zex E n (d' + 1) 240 4 [some (.ref 84), some (.int x1), some (.int x2), some (.int x3), none] [] h1 := ((zx1 zf240_0).trans rfl : zex E (n + 2) (d' + 1) 240 0 [some (.ref 84), some (.int x1), some (.int x2), some (.int x3), none] [] h = zex E (n + 1) (d' + 1) 240 1 [some (.ref 84), some (.int x1), some (.int x2), some (.int x3), none] [.ref 84] h).trans (zcv1 zf240_1 zmi235 ha rfl e1)
  have hs := sk_le (P := isBl) (T := tp90 h0) hp
  rw [hn, e2]
  refine mg_one hE hsm k1 (y := 0) (v := 0) (lo := lo) (hi := hi) (mo := mo) (yb := (0, 0)) (vb := V5) (mg_env hL (by omega) (by omega) ⟨Int.le_refl _, Int.le_refl _⟩ ⟨by decide, by decide⟩ hlo hhi hm) bcs_n (mg_o k2 k3 k4) (show bLR [(L : Int), ((sk isBl (tp90 h0) L p : Nat) : Int), ((sk isBl (tp90 h0) L p : Nat) : Int), 0, 0, lo, hi, (mo : Int)] (mgL none) [some (.ref 84), some (.int x1), some (.int x2), some (.int x3), none] from ⟨⟨_, rfl, rfl⟩, ⟨_, rfl, x1, rfl, by rw [g1]; exact brel_v rfl⟩, ⟨_, rfl, x2, rfl, by rw [g2]; exact brel_v rfl⟩, ⟨_, rfl, x3, rfl, by rw [g3]; exact brel_v rfl⟩, trivial, trivial⟩) mg_0 (B' := B + F * 402) (Nat.le_add_right _ _) ?_ (d' + 1) n (by omega) (by omega)
  intro h' y1 y2 y3 y4 j1 j2 j3 j4 k5 q1 q2 q3 d f hd hf
  rw [mg_v1] at q2
  rw [bvx_k] at j4
  exact mg_loop hE hsm hF hL hlo hhi hm 400 (sk isBl (tp90 h0) L p) h' y1 y2 y3 y4 (by omega) hs (Nat.le_refl _) (fun i hi => by omega) k5 q1 q2 q3 j1 j2 j3 (by rw [j4, Nat.sub_self, Nat.min_zero]; rfl) d f hd hf
end MG2
