/-! the model's text: blanks, letters -/
/-- what the lexical methods of the model write: point and begin -/
def wM : Nat := 16849966666969149871666884429387269171023215264087857800689756405760
set_option maxRecDepth 100000 in
theorem wM90 : Nat.testBit wM (bun 90 0) = false := by decide +kernel
set_option maxRecDepth 100000 in
theorem biv90 (i : Nat) : biv 90 i = (-128, 127) := rfl
set_option maxRecDepth 100000 in
theorem wM_90 {h0 h : zH} {a b : Nat} (hr : bRQ ctb wM h0 a b h) (i : Nat) : h.2.1 90 i = h0.2.1 90 i := hr.2.2.2.1 90 i wM90
def tp90 (h : zH) (i : Nat) : Int := (h.2.1 90 i).toInt
def ml1 : bLs := [some (.inr (.inl (.ref 84)))]
/-- end, point, begin, byte -/
def mE (b : Int × Int) : bE := [(0, 400), (0, 400), (0, 400), b]
def mlt : bI := (-1, [(0, 1), (1, -1)])
def mge : bI := (0, [(0, -1), (1, 1)])
def mv (i : Nat) : bI := (0, [(i, 1)])
def mO : bO := [(84, (11, []), mv 0), (84, (10, []), mv 1), (84, (12, []), mv 2)]
def mB : bO := [(90, (0, [(1, 1)]), mv 3)]
def mP (p b : bI) : bPv := [(84, 11, mv 0), (84, 10, p), (84, 12, b)]
def mN (pc : Nat) (e : bE) (p b : bI) : bNd := (pc, ml1, e, [], mP p b, (0, []), (0, []), (0, []))
noncomputable def mF (p b : bI) : bS → Option bV → Bool := bfn 0 0 4 (bidl 4 0) [([], [], none, mP p b)]
noncomputable def mR (mi : Nat) (fin : bS → Option bV → Bool) (L : List bNd) (e : bE) (cs : bC) (ov : bO) (pc : Nat) : Bool := btz wM (60, smT) ctb fin 60 mi 1000000 4 L (4, e, cs, ov, (0, []), (0, [])) pc ml1
def mf1 : bI := (1, [(1, 1)])
set_option maxRecDepth 100000 in
theorem mb_1 : mR 235 ag_no9 [mN 0 (mE (32, 32)) mf1 (mv 2)] (mE (32, 32)) [mlt] (mO ++ mB) 0 = true := by decide +kernel
set_option maxRecDepth 100000 in
theorem mb_2 : mR 235 (mF (mv 1) (mv 1)) [] (mE (-128, 127)) [mge] mO 0 = true := by decide +kernel
set_option maxRecDepth 100000 in
theorem mb_3 : mR 235 (mF (mv 1) (mv 1)) [] (mE (-128, 31)) [mlt] (mO ++ mB) 0 = true := by decide +kernel
set_option maxRecDepth 100000 in
theorem mb_4 : mR 235 (mF (mv 1) (mv 1)) [] (mE (33, 127)) [mlt] (mO ++ mB) 0 = true := by decide +kernel
set_option maxRecDepth 100000 in
theorem ml_1 : mR 236 ag_no9 [mN 4 (mE (97, 122)) mf1 (mv 2)] (mE (97, 122)) [mlt] (mO ++ mB) 4 = true := by decide +kernel
set_option maxRecDepth 100000 in
theorem ml_2 : mR 236 (mF (mv 1) (mv 2)) [] (mE (-128, 127)) [mge] mO 4 = true := by decide +kernel
set_option maxRecDepth 100000 in
theorem ml_3 : mR 236 (mF (mv 1) (mv 2)) [] (mE (-128, 96)) [mlt] (mO ++ mB) 4 = true := by decide +kernel
set_option maxRecDepth 100000 in
theorem ml_4 : mR 236 (mF (mv 1) (mv 2)) [] (mE (123, 127)) [mlt] (mO ++ mB) 4 = true := by decide +kernel
section ML
variable {E : zE} {B F : Nat} {Q : Option zR → Prop} {h0 h : zH} {L p b : Nat} {y : Int}
set_option maxRecDepth 100000 in
theorem m_o (h1 : (h.2.1 84 11).toInt = (L : Int)) (h2 : (h.2.1 84 10).toInt = (p : Int)) (h3 : (h.2.1 84 12).toInt = (b : Int)) : bOV E [(L : Int), (p : Int), (b : Int), y] mO h :=
  bov_c (k := 11) rfl rfl rfl rfl (by unfold mv; rw [bvx_v]; exact h1) (bov_c (k := 10) rfl rfl rfl rfl (by unfold mv; rw [bvx_v]; exact h2) (bov_c (k := 12) rfl rfl rfl rfl (by unfold mv; rw [bvx_v]; exact h3) bov_n))
set_option maxRecDepth 100000 in
theorem m_oB (h2 : (h.2.1 90 p).toInt = y) : bOV E [(L : Int), (p : Int), (b : Int), y] mB h :=
  bov_c (k := p) rfl rfl (by rw [bvx_v]; rfl) rfl (by unfold mv; rw [bvx_v]; exact h2) bov_n
set_option maxRecDepth 100000 in
theorem m_lt (h1 : p < L) : bcs [(L : Int), (p : Int), (b : Int), y] [mlt] := bcs_c rfl (by show 0 ≤ -1 + (1 * (L : Int) + ((-1) * (p : Int) + 0)); omega) bcs_n
set_option maxRecDepth 100000 in
theorem m_ge (h1 : L ≤ p) : bcs [(L : Int), (p : Int), (b : Int), y] [mge] := bcs_c rfl (by show 0 ≤ 0 + ((-1) * (L : Int) + (1 * (p : Int) + 0)); omega) bcs_n
set_option maxRecDepth 100000 in
theorem m_pv {pf bf : bI} {h' : zH} (hp : bpv E [(L : Int), (p : Int), (b : Int), y] (mP pf bf) h') : (h'.2.1 84 11).toInt = (L : Int) ∧ (h'.2.1 84 10).toInt = bvx [(L : Int), (p : Int), (b : Int), y] pf ∧ (h'.2.1 84 12).toInt = bvx [(L : Int), (p : Int), (b : Int), y] bf := by
  have p1 := bpv_x hp (c := 84) (k := 11) rfl (List.Mem.head _)
  have p2 := bpv_x hp (c := 84) (k := 10) rfl (List.Mem.tail _ (List.Mem.head _))
  have p3 := bpv_x hp (c := 84) (k := 12) rfl (List.Mem.tail _ (List.Mem.tail _ (List.Mem.head _)))
  unfold mv at p1
  rw [bvx_v] at p1
  exact ⟨p1, p2, p3⟩
set_option maxRecDepth 100000 in
theorem m_lr (V : List Int) : bLR V ml1 [some (.ref 84)] := ⟨⟨_, rfl, rfl⟩, trivial⟩
set_option maxRecDepth 100000 in
theorem m_lrs {V : List Int} {ls : zLs} (h : bLR V ml1 ls) : ls = [some (.ref 84)] := by
  obtain ⟨l1, e1, k1⟩ := bls_r h
  rw [e1, bls_0 k1]
/-- what such a method ends in -/
def mQ (h0 : zH) (L p b : Nat) (o : Option zR) : Prop := ∃ h', o = some (.inl none, h') ∧ bRQ ctb wM h0 0 0 h' ∧ (h'.2.1 84 11).toInt = (L : Int) ∧ (h'.2.1 84 10).toInt = (p : Int) ∧ (h'.2.1 84 12).toInt = (b : Int)
set_option maxRecDepth 100000 in
theorem m_fin (hE : E.1 < 2147483648) (hsm : bSO E ctb B (60, smT)) {mi pc : Nat} (hr : bRQ ctb wM h0 0 0 h) (hL : L ≤ 400) (hp : p ≤ 400) (hb : b ≤ 400) {eb : Int × Int} (hy : eb.1 ≤ y ∧ y ≤ eb.2) {cs : bC} {ov : bO} (hcs : bcs [(L : Int), (p : Int), (b : Int), y] cs) (hov : bOV E [(L : Int), (p : Int), (b : Int), y] ov h) {pf bf : bI} (e : mR mi (mF pf bf) [] (mE eb) cs ov pc = true)
    {p9 b9 : Nat} (g1 : bvx [(L : Int), (p : Int), (b : Int), y] pf = (p9 : Int)) (g2 : bvx [(L : Int), (p : Int), (b : Int), y] bf = (b9 : Int)) : ∀ d f, 60 ≤ d → B + 1000000 ≤ f → mQ h0 L p9 b9 (zex E f d mi pc [some (.ref 84)] [] h) := by
  refine seg (V := [(L : Int), (p : Int), (b : Int), y]) (ca := 0) (sa := 0) (nv := 4) hE hsm (fin_n (V := [(L : Int), (p : Int), (b : Int), y]) (ca := 0) (sa := 0) rfl (fun w h' k1 k2 k3 => ?_)) hr (benv_c (by omega) (by omega) (benv_c (by omega) (by omega) (benv_c (by omega) (by omega) (benv_c hy.1 hy.2 benv_n)))) rfl hcs hov (m_lr _) e (Nat.le_refl B) (fun N hN => absurd hN List.not_mem_nil) (fun N hN => absurd hN List.not_mem_nil)
  obtain ⟨q1, q2, q3⟩ := m_pv k3
  cases w with
  | none => exact ⟨h', rfl, k1, q1, by rw [q2, g1], by rw [q3, g2]⟩
  | some w => exact k2.elim
set_option maxRecDepth 100000 in
theorem m_one (hE : E.1 < 2147483648) (hsm : bSO E ctb B (60, smT)) {mi pc pc' : Nat} (hr : bRQ ctb wM h0 0 0 h) (hL : L ≤ 400) (hp : p ≤ 400) (hb : b ≤ 400) {eb : Int × Int} (hy : eb.1 ≤ y ∧ y ≤ eb.2) {cs : bC} {ov : bO} (hcs : bcs [(L : Int), (p : Int), (b : Int), y] cs) (hov : bOV E [(L : Int), (p : Int), (b : Int), y] ov h) {pf bf : bI} (e : mR mi ag_no9 [mN pc' (mE eb) pf bf] (mE eb) cs ov pc = true) {B' : Nat} (hB : B ≤ B')
    (hk : ∀ h', bRQ ctb wM h0 0 0 h' → (h'.2.1 84 11).toInt = (L : Int) → (h'.2.1 84 10).toInt = bvx [(L : Int), (p : Int), (b : Int), y] pf → (h'.2.1 84 12).toInt = bvx [(L : Int), (p : Int), (b : Int), y] bf → ∀ d f, 60 ≤ d → B' ≤ f → Q (zex E f d mi pc' [some (.ref 84)] [] h')) : ∀ d f, 60 ≤ d → B' + 1000000 ≤ f → Q (zex E f d mi pc [some (.ref 84)] [] h) := by
  refine seg (V := [(L : Int), (p : Int), (b : Int), y]) (ca := 0) (sa := 0) (nv := 4) hE hsm (fun V S v w h _ _ _ z => nomatch (show false = true from z)) hr (benv_c (by omega) (by omega) (benv_c (by omega) (by omega) (benv_c (by omega) (by omega) (benv_c hy.1 hy.2 benv_n)))) rfl hcs hov (m_lr _) e hB ?_ ?_
  · intro N hN
    cases hN with
    | head => exact ⟨rfl, rfl, rfl⟩
    | tail _ hN => exact absurd hN List.not_mem_nil
  · intro N hN ls' h' k1 k2 k3 d f hd hf
    cases hN with
    | tail _ hN => exact absurd hN List.not_mem_nil
    | head =>
      obtain ⟨q1, q2, q3⟩ := m_pv k3
      rw [m_lrs k1]
      exact hk h' k2 q1 q2 q3 d f hd hf
set_option maxRecDepth 100000 in
theorem m_v1 : bvx [(L : Int), (p : Int), (b : Int), y] (mv 1) = (p : Int) := by unfold mv; rw [bvx_v]; rfl
set_option maxRecDepth 100000 in
theorem m_v2 : bvx [(L : Int), (p : Int), (b : Int), y] (mv 2) = (b : Int) := by unfold mv; rw [bvx_v]; rfl
set_option maxRecDepth 100000 in
theorem m_vf : bvx [(L : Int), (p : Int), (b : Int), y] mf1 = ((p + 1 : Nat) : Int) := by
  show 1 + (1 * (p : Int) + 0) = ((p + 1 : Nat) : Int)
  omega
set_option maxRecDepth 100000 in
theorem m_run (hE : E.1 < 2147483648) (hsm : bSO E ctb B (60, smT)) (hF : 1000000 ≤ F) (hL : L ≤ 400) {P : Int → Bool} {lo hi : Int} (hP : ∀ x, P x = true ↔ lo ≤ x ∧ x ≤ hi) {mi pc : Nat} {bf : bI} (hbf : bf = mv 1 ∨ bf = mv 2)
    (c1 : mR mi ag_no9 [mN pc (mE (lo, hi)) mf1 (mv 2)] (mE (lo, hi)) [mlt] (mO ++ mB) pc = true) (c2 : mR mi (mF (mv 1) bf) [] (mE (-128, 127)) [mge] mO pc = true) (c3 : mR mi (mF (mv 1) bf) [] (mE (-128, lo - 1)) [mlt] (mO ++ mB) pc = true) (c4 : mR mi (mF (mv 1) bf) [] (mE (hi + 1, 127)) [mlt] (mO ++ mB) pc = true) :
    ∀ (m p b : Nat) (h : zH), L ≤ p + m → p ≤ L → b ≤ 400 → bRQ ctb wM h0 0 0 h → (h.2.1 84 11).toInt = (L : Int) → (h.2.1 84 10).toInt = (p : Int) → (h.2.1 84 12).toInt = (b : Int) → ∀ d f, 60 ≤ d → B + F * (m + 1) ≤ f → mQ h0 L (sk P (tp90 h0) L p) (if bf = mv 1 then sk P (tp90 h0) L p else b) (zex E f d mi pc [some (.ref 84)] [] h) := by
  intro m
  have bfx : ∀ (p b : Nat) (y : Int), bvx [(L : Int), (p : Int), (b : Int), y] bf = ((if bf = mv 1 then p else b : Nat) : Int) := by
    intro p b y
    rcases hbf with z | z
    · rw [z, if_pos rfl]; exact m_v1
    · rw [z, if_neg (by decide)]; exact m_v2
  have out : ∀ (p b : Nat) (h : zH), p ≤ L → (p < L → P (tp90 h0 p) = false) → b ≤ 400 → bRQ ctb wM h0 0 0 h → (h.2.1 84 11).toInt = (L : Int) → (h.2.1 84 10).toInt = (p : Int) → (h.2.1 84 12).toInt = (b : Int) → ∀ d f, 60 ≤ d → B + F ≤ f → mQ h0 L (sk P (tp90 h0) L p) (if bf = mv 1 then sk P (tp90 h0) L p else b) (zex E f d mi pc [some (.ref 84)] [] h) := by
    intro p b h hp hn hb hr p1 p2 p3 d f hd hf
    rw [sk_e hn]
    have hf2 : B + 1000000 ≤ f := by omega
    by_cases hlt : p < L
    · have hbb := hr.1.1 90 p
      rw [biv90] at hbb
      have hb1 : -128 ≤ (h.2.1 90 p).toInt := hbb.1
      have hb2 : (h.2.1 90 p).toInt ≤ 127 := hbb.2
      have hT : tp90 h0 p = (h.2.1 90 p).toInt := by unfold tp90; rw [wM_90 hr]
      have hn2 : ¬ (lo ≤ (h.2.1 90 p).toInt ∧ (h.2.1 90 p).toInt ≤ hi) := by
        intro z
        have := (hP _).mpr z
        rw [← hT, hn hlt] at this
        cases this
      by_cases hlo : (h.2.1 90 p).toInt ≤ lo - 1
      · exact m_fin hE hsm hr hL (by omega) hb (y := (h.2.1 90 p).toInt) (eb := (-128, lo - 1)) ⟨hb1, hlo⟩ (m_lt hlt) (bov_app (m_o p1 p2 p3) (m_oB rfl)) c3 m_v1 (bfx _ _ _) d f hd hf2
      · exact m_fin hE hsm hr hL (by omega) hb (y := (h.2.1 90 p).toInt) (eb := (hi + 1, 127)) ⟨by show hi + 1 ≤ _; omega, hb2⟩ (m_lt hlt) (bov_app (m_o p1 p2 p3) (m_oB rfl)) c4 m_v1 (bfx _ _ _) d f hd hf2
    · exact m_fin hE hsm hr hL (by omega) hb (y := 0) (eb := (-128, 127)) ⟨by decide, by decide⟩ (m_ge (by omega)) (m_o p1 p2 p3) c2 m_v1 (bfx _ _ _) d f hd hf2
  induction m with
  | zero =>
    intro p b h hm hp hb hr p1 p2 p3 d f hd hf
    have hmul : F * (0 + 1) = F := Nat.mul_one F
    exact out p b h hp (fun z => by omega) hb hr p1 p2 p3 d f hd (by omega)
  | succ m ih =>
    intro p b h hm hp hb hr p1 p2 p3 d f hd hf
    have hmul : F * (m + 1 + 1) = F * (m + 1) + F := Nat.mul_succ F (m + 1)
    have hf1 : B + F * (m + 1) + 1000000 ≤ f := by omega
    have hf2 : B + F ≤ f := by omega
    by_cases hn : p < L → P (tp90 h0 p) = false
    · exact out p b h hp hn hb hr p1 p2 p3 d f hd hf2
    · have hlt : p < L := by
        by_cases z : p < L
        · exact z
        · exact absurd (fun z2 => absurd z2 z) hn
      have hy : P (tp90 h0 p) = true := by
        cases hz : P (tp90 h0 p) with
        | true => rfl
        | false => exact absurd (fun _ => hz) hn
      have hT : tp90 h0 p = (h.2.1 90 p).toInt := by unfold tp90; rw [wM_90 hr]
      have hy2 := (hP _).mp hy
      rw [hT] at hy2
      rw [sk_s hlt hy]
      refine m_one hE hsm hr hL (by omega) hb (y := (h.2.1 90 p).toInt) (eb := (lo, hi)) hy2 (m_lt hlt) (bov_app (m_o p1 p2 p3) (m_oB rfl)) c1 (B' := B + F * (m + 1)) (Nat.le_add_right _ _) ?_ d f hd hf1
      intro h' k1 k2 k3 k4 d f hd hf
      rw [m_vf] at k3
      rw [m_v2] at k4
      exact ih (p + 1) b h' (by omega) (by omega) hb k1 k2 k3 k4 d f hd hf
set_option maxRecDepth 100000 in
theorem isBl_lh (x : Int) : isBl x = true ↔ 32 ≤ x ∧ x ≤ 32 := by
  rw [isBl_s]
  omega
set_option maxRecDepth 100000 in
theorem m_blanks (hE : E.1 < 2147483648) (hsm : bSO E ctb B (60, smT)) (hF : 1000000 ≤ F) (hL : L ≤ 400) (hp : p ≤ L) (hb : b ≤ 400) (hr : bRQ ctb wM h0 0 0 h) (p1 : (h.2.1 84 11).toInt = (L : Int)) (p2 : (h.2.1 84 10).toInt = (p : Int)) (p3 : (h.2.1 84 12).toInt = (b : Int)) : ∀ d f, 60 ≤ d → B + F * 401 ≤ f → mQ h0 L (sk isBl (tp90 h0) L p) (sk isBl (tp90 h0) L p) (zex E f d 235 0 [some (.ref 84)] [] h) := by
  intro d f hd hf
  have := m_run (P := isBl) (lo := 32) (hi := 32) (mi := 235) (pc := 0) (bf := mv 1) hE hsm hF hL isBl_lh (Or.inl rfl) mb_1 mb_2 mb_3 mb_4 400 p b h (by omega) hp hb hr p1 p2 p3 d f hd hf
  rw [if_pos rfl] at this
  exact this
set_option maxRecDepth 100000 in
theorem isLt_lh (x : Int) : isLt x = true ↔ 97 ≤ x ∧ x ≤ 122 := isLt_s
set_option maxRecDepth 100000 in
theorem zmi235 : zat zmi 235 = some (1, 1, 0, 12, 0, 0) := rfl
set_option maxRecDepth 100000 in
theorem zf236_0 : zfetch 236 0 = some (.aload_n 0, 1, (0, 0, 0), 0, 0) := by decide +kernel
set_option maxRecDepth 100000 in
theorem zf236_1 : zfetch 236 1 = some (.invokevirtual 97, 3, (0, 235, 0), 0, 1711) := by decide +kernel
set_option maxRecDepth 100000 in
theorem zcv1 {n d mi pc j a3 ln i9 w ci b : Nat} {z : Int32} {sl : List (Option (Option Nat))} {ls : zLs} {r : List Value} {h h1 : zH} (hf : zfetch mi pc = some (.invokevirtual i9, ln, (0, j, a3), z, w)) (hj : zat zmi j = some (1, 1, 0, ci, 0, 0)) (hb : zat h.1 b = some (.inr (.inl (ci, sl)))) (hr : Nat.ble (zsum r) 8 = true) (hc : zex E n d j 0 [some (.ref b)] [] h = some (.inl none, h1)) : zex E (n + 1) (d + 1) mi pc ls (.ref b :: r) h = zex E n (d + 1) mi (pc + ln) ls r h1 :=
  (zx1 hf).trans (zinv_1 (ih := zex E n) (nx := zex E n (d + 1) mi (pc + ln)) (mi := mi) (pc := pc) (tx := Nat.beq a3 0) (ls := ls) (r := r) hj hb hr hc)
set_option maxRecDepth 100000 in
theorem m_letters (hE : E.1 < 2147483648) (hsm : bSO E ctb B (60, smT)) (hF : 1000000 ≤ F) (hL : L ≤ 400) (hp : p ≤ L) (hb : b ≤ 400) (hr : bRQ ctb wM h0 0 0 h) (p1 : (h.2.1 84 11).toInt = (L : Int)) (p2 : (h.2.1 84 10).toInt = (p : Int)) (p3 : (h.2.1 84 12).toInt = (b : Int)) : ∀ d f, 61 ≤ d → B + F * 402 ≤ f → mQ h0 L (sk isLt (tp90 h0) L (sk isBl (tp90 h0) L p)) (sk isBl (tp90 h0) L p) (zex E f d 236 0 [some (.ref 84)] [] h) := by
  intro d f hd hf
  have hmul : F * 402 = F * 401 + F := Nat.mul_succ F 401
  obtain ⟨n, hn⟩ : ∃ n, f = n + 2 := ⟨f - 2, by omega⟩
  obtain ⟨d', hd'⟩ : ∃ d', d = d' + 1 := ⟨d - 1, by omega⟩
  subst hd'
  have hf1 : B + F * 401 ≤ n := by omega
  obtain ⟨h1, e1, k1, k2, k3, k4⟩ := m_blanks hE hsm hF hL hp hb hr p1 p2 p3 d' n (by omega) hf1
  have ha := hr.2.2.1 84 _ cs84 (by intro z; cases z)
  have e2 : zex E (n + 2) (d' + 1) 236 0 [some (.ref 84)] [] h = zex E n (d' + 1) 236 4 [some (.ref 84)] [] h1 := ((zx1 zf236_0).trans rfl : zex E (n + 2) (d' + 1) 236 0 [some (.ref 84)] [] h = zex E (n + 1) (d' + 1) 236 1 [some (.ref 84)] [.ref 84] h).trans (zcv1 zf236_1 zmi235 ha rfl e1)
  have hs := sk_le (P := isBl) (T := tp90 h0) hp
  rw [hn, e2]
  have := m_run (P := isLt) (lo := 97) (hi := 122) (mi := 236) (pc := 4) (bf := mv 2) hE hsm hF hL isLt_lh (Or.inr rfl) ml_1 ml_2 ml_3 ml_4 400 (sk isBl (tp90 h0) L p) (sk isBl (tp90 h0) L p) h1 (by omega) hs (by omega) k1 k2 k3 k4 (d' + 1) n (by omega) hf1
  rw [if_neg (by decide)] at this
  exact this
end ML
