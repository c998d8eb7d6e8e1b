/-! the class's line; kind 5, how many lines 8 -/
noncomputable def wD : Nat := sc1.2.1
set_option maxRecDepth 100000 in
theorem wD2 : Nat.testBit wD (bun 2 0) = false := by decide +kernel
set_option maxRecDepth 100000 in
theorem bRQ_CD {h0 h : zH} (hr : bRQ ctb wC h0 0 0 h) : bRQ ctb wD h0 0 0 h := ⟨hr.1, hr.2.1, hr.2.2.1, fun c k z => hr.2.2.2.1 c k (wC_f z), hr.2.2.2.2.1, hr.2.2.2.2.2⟩
set_option maxRecDepth 100000 in
theorem bRQ_r {tb : bTb} {W : Nat} {h0 h : zH} (hr : bRQ tb W h0 0 0 h) {W2 : Nat} : bRQ tb W2 h 0 0 h := ⟨hr.1, hr.2.1, hr.2.2.1, fun _ _ _ => rfl, Nat.le_refl _, Nat.le_refl _⟩
set_option maxRecDepth 100000 in
theorem wD_2 {h0 h : zH} {a b : Nat} (hr : bRQ ctb wD h0 a b h) : tp2 h = tp2 h0 := tp2_e fun i => hr.2.2.2.1 2 i wD2
def qA2 (x : Option bV) : bLs := [q76, q1, x]
def kLn : Int × Int := (0, 11)
set_option maxRecDepth 100000 in
theorem pl_6a : qN 159 6 (qA2 none) (qc (-1)) (qE ag_MX kY qz qz qz kLn qk3) [] kO = true := by decide +kernel
set_option maxRecDepth 100000 in
theorem pl_6b : qG 82 159 6 (qA2 none) [.inl (mv 5)] (qE ag_MX kY (0, 3) qz qz kLn qk3) [] kO 21 (qA2 (kvv 5)) = true := by decide +kernel
set_option maxRecDepth 100000 in
theorem pl_25a : qN 159 25 (qA2 (kvv 5)) [] (qE ag_MX kY (0, 3) qz qz kLn qz) [] kO = true := by decide +kernel
set_option maxRecDepth 100000 in
theorem pl_25b : qN 159 25 (qA2 (kvv 5)) [] (qE ag_MX kY (0, 3) qz qz kLn (2, 3)) [] kO = true := by decide +kernel
set_option maxRecDepth 100000 in
theorem pl_25c : qN 159 25 (qA2 (kvv 5)) [] (qE ag_MX kY (0, 3) qz qz kLn (1, 1)) [(-4, [(1, -1), (2, 1)])] kO = true := by decide +kernel
set_option maxRecDepth 100000 in
theorem pl_25d : qG 82 159 25 (qA2 (kvv 5)) [] (qE (0, 999) kY (0, 3) qz qz kLn (1, 1)) [(3, [(1, 1), (2, -1)])] ((77, (0, []), mv 8) :: kO) 54 (qA2 (kvv 5)) = true := by decide +kernel
/-! with how many lines there are -/
def rN (pc : Nat) (al : bLs) (e : bE) (f : bI) : bNd := (pc, al, e, [], (77, 0, f) :: kPv, (0, []), (0, []), (0, []))
def rO : bO := (77, (0, []), mv 8) :: kO
noncomputable def rR (D MI : Nat) (fin : bS → Option bV → Bool) (L : List bNd) (e : bE) (cs : bC) (ov : bO) (pc : Nat) (al : bLs) (ak : bSt) : Bool := btzk wD (60, smT) ctb fin D MI 1000000 10 L (10, e, cs, ov, (0, []), (0, [])) pc al ak
noncomputable def rG (D MI pc : Nat) (al : bLs) (ak : bSt) (e : bE) (cs : bC) (ov : bO) (pc' : Nat) (al' : bLs) (f : bI) : Bool := rR D MI ag_no9 [rN pc' al' e f] e cs ov pc al ak
noncomputable def rY (MI pc : Nat) (al : bLs) (ak : bSt) (e : bE) (cs : bC) (ov : bO) (r f : bI) : Bool := rR 62 MI (bfn 0 0 10 (bidl 10 0) [([], [], some (.inl r), (77, 0, f) :: kPv)]) [] e cs ov pc al ak
set_option maxRecDepth 100000 in
theorem pl_64 : rG 82 159 64 (qA2 none) (qc 0) (qE ag_MX kY qz qz qz kLn qk3) [] rO 82 (qA2 none) (mv 8) = true := by decide +kernel
set_option maxRecDepth 100000 in
theorem pl_77 : rG 82 159 77 (qA2 none) (qc 1) (qE ag_MX kY qz qz qz kLn qk3) [] rO 82 (qA2 none) (mv 8) = true := by decide +kernel
set_option maxRecDepth 100000 in
theorem pl_64b : qG 82 159 64 (qA2 none) (qc 1) (qE ag_MX kY qz qz qz kLn qk3) [] kO 67 (qA2 none) = true := by decide +kernel
set_option maxRecDepth 100000 in
theorem pl_82 : rY 159 82 (qA2 none) [] (qE ag_MX kY qz qz qz kLn qk3) [] rO (1, []) (1, [(8, 1)]) = true := by decide +kernel
section RP
variable {E : zE} {B F : Nat} {Q : Option zR → Prop} {h0 h hb : zH} {L s D MI : Nat} {y a b c g : Int}
set_option maxRecDepth 100000 in
theorem r_ov (ht : CT h (tp2 h0) L s) (hg : (h.2.1 77 0).toInt = g) : bOV E (k9 L s (kE (tp2 h0) L s) (kV (tp2 h0) L s) y a b c g (kK (tp2 h0) L s)) rO h := bov_c (k := 0) rfl rfl rfl rfl (by unfold mv; rw [bvx_v]; exact hg) (k_ov ht)
set_option maxRecDepth 100000 in
theorem r_pv {l : bPv} {f : bI} {V : List Int} {E : zE} {h' : zH} (hp : bpv E V ((77, 0, f) :: l) h') : (h'.2.1 77 0).toInt = bvx V f ∧ bpv E V l h' := ⟨bpv_x hp (c := 77) (k := 0) rfl (List.Mem.head _), fun e he => hp e (List.Mem.tail _ he)⟩
set_option maxRecDepth 100000 in
theorem r_one (hE : E.1 < 2147483648) (hsm : bSO E ctb B (60, smT)) (hr : bRQ ctb wD hb 0 0 h) {en : bE} (hv : benv (k9 L s (kE (tp2 h0) L s) (kV (tp2 h0) L s) y a b c g (kK (tp2 h0) L s)) en) {cs : bC} {ov : bO} (hcs : bcs (k9 L s (kE (tp2 h0) L s) (kV (tp2 h0) L s) y a b c g (kK (tp2 h0) L s)) cs) (hov : bOV E (k9 L s (kE (tp2 h0) L s) (kV (tp2 h0) L s) y a b c g (kK (tp2 h0) L s)) ov h) {pc pc' : Nat} {al al' : bLs} {ls : zLs} (hl : bLR (k9 L s (kE (tp2 h0) L s) (kV (tp2 h0) L s) y a b c g (kK (tp2 h0) L s)) al ls) {ak : bSt} {st : List Value} (hk : bKR (k9 L s (kE (tp2 h0) L s) (kV (tp2 h0) L s) y a b c g (kK (tp2 h0) L s)) ak st) {f9 : bI} (ch : rG D MI pc al ak en cs ov pc' al' f9 = true) (hen : en.length = 10) {B' : Nat} (hB : B ≤ B')
    (hL : ∀ ls' h', bLR (k9 L s (kE (tp2 h0) L s) (kV (tp2 h0) L s) y a b c g (kK (tp2 h0) L s)) al' ls' → bRQ ctb wD hb 0 0 h' → CT h' (tp2 h0) L s → (h'.2.1 77 0).toInt = bvx (k9 L s (kE (tp2 h0) L s) (kV (tp2 h0) L s) y a b c g (kK (tp2 h0) L s)) f9 → ∀ d f, D ≤ d → B' ≤ f → Q (zex E f d MI pc' ls' [] h')) : ∀ d f, D ≤ d → B' + 1000000 ≤ f → Q (zex E f d MI pc ls st h) := by
  unfold rG rR at ch
  refine segk (fin := ag_no9) (V := k9 L s (kE (tp2 h0) L s) (kV (tp2 h0) L s) y a b c g (kK (tp2 h0) L s)) (ca := 0) (sa := 0) (nv := 10) hE hsm (fun V S v w h _ _ _ z => nomatch (show false = true from z)) hr hv rfl hcs hov hl hk ch hB ?_ ?_
  · intro N hN
    cases hN with
    | head => exact ⟨hen, rfl, rfl⟩
    | tail _ hN => exact absurd hN List.not_mem_nil
  · intro N hN ls' h' k1 k2 k3 d f hd hf
    cases hN with
    | tail _ hN => exact absurd hN List.not_mem_nil
    | head => exact hL ls' h' k1 k2 (k_ct (r_pv k3).2) (r_pv k3).1 d f hd hf
set_option maxRecDepth 100000 in
theorem r_fin (hE : E.1 < 2147483648) (hsm : bSO E ctb B (60, smT)) (hr : bRQ ctb wD hb 0 0 h) {en : bE} (hv : benv (k9 L s (kE (tp2 h0) L s) (kV (tp2 h0) L s) y a b c g (kK (tp2 h0) L s)) en) {cs : bC} {ov : bO} (hcs : bcs (k9 L s (kE (tp2 h0) L s) (kV (tp2 h0) L s) y a b c g (kK (tp2 h0) L s)) cs) (hov : bOV E (k9 L s (kE (tp2 h0) L s) (kV (tp2 h0) L s) y a b c g (kK (tp2 h0) L s)) ov h) {pc : Nat} {al : bLs} {ls : zLs} (hl : bLR (k9 L s (kE (tp2 h0) L s) (kV (tp2 h0) L s) y a b c g (kK (tp2 h0) L s)) al ls) {ak : bSt} {st : List Value} (hk : bKR (k9 L s (kE (tp2 h0) L s) (kV (tp2 h0) L s) y a b c g (kK (tp2 h0) L s)) ak st) {r9 f9 : bI} (ch : rY MI pc al ak en cs ov r9 f9 = true) : ∀ d f, 62 ≤ d → B + 1000000 ≤ f → ∃ (x : Int32) (h' : zH), zex E f d MI pc ls st h = some (.inl (some (.int x)), h') ∧ x.toInt = bvx (k9 L s (kE (tp2 h0) L s) (kV (tp2 h0) L s) y a b c g (kK (tp2 h0) L s)) r9 ∧ bRQ ctb wD hb 0 0 h' ∧ CT h' (tp2 h0) L s ∧ (h'.2.1 77 0).toInt = bvx (k9 L s (kE (tp2 h0) L s) (kV (tp2 h0) L s) y a b c g (kK (tp2 h0) L s)) f9 := by
  unfold rY rR at ch
  refine segk (Q := fun o => ∃ (x : Int32) (h' : zH), o = some (.inl (some (.int x)), h') ∧ x.toInt = bvx (k9 L s (kE (tp2 h0) L s) (kV (tp2 h0) L s) y a b c g (kK (tp2 h0) L s)) r9 ∧ bRQ ctb wD hb 0 0 h' ∧ CT h' (tp2 h0) L s ∧ (h'.2.1 77 0).toInt = bvx (k9 L s (kE (tp2 h0) L s) (kV (tp2 h0) L s) y a b c g (kK (tp2 h0) L s)) f9) (V := k9 L s (kE (tp2 h0) L s) (kV (tp2 h0) L s) y a b c g (kK (tp2 h0) L s)) (ca := 0) (sa := 0) (nv := 10) hE hsm (fin_n (V := k9 L s (kE (tp2 h0) L s) (kV (tp2 h0) L s) y a b c g (kK (tp2 h0) L s)) (ca := 0) (sa := 0) rfl (fun u h' k1 k2 k3 => ?_)) hr hv rfl hcs hov hl hk ch (Nat.le_refl B) (fun N hN => absurd hN List.not_mem_nil) (fun N hN => absurd hN List.not_mem_nil)
  cases u with
  | none => exact k2.elim
  | some u =>
    obtain ⟨x, x1, x2⟩ := k2
    exact ⟨x, h', by rw [x1], brel_x x2, k1, k_ct (r_pv k3).2, (r_pv k3).1⟩
end RP
/-- a line read: where it goes on, with one line more, or where it is wrong -/
def lnQ (h0 : zH) (L : Nat) (r : Nat ⊕ Nat) (o : Option zR) : Prop := ∃ (x : Int32) (h' : zH), o = some (.inl (some (.int x)), h') ∧ bRQ ctb wD h0 0 0 h' ∧ (match r with
  | .inr w => x.toInt = 0 ∧ (h'.2.1 76 1).toInt = (w : Int)
  | .inl e => x.toInt = 1 ∧ CT h' (tp2 h0) L e ∧ (h'.2.1 77 0).toInt = (h0.2.1 77 0).toInt + 1)
set_option maxRecDepth 100000 in
theorem lnQ_0 {h0 : zH} {L w : Nat} {o : Option zR} (h : cvQ h0 L (.inr w) o) : lnQ h0 L (.inr w) o := by
  obtain ⟨x, h', e1, k1, k2⟩ := h
  exact ⟨x, h', e1, bRQ_CD k1, k2⟩
section RL
variable {E : zE} {B F G H : Nat} {h0 : zH} {L : Nat}
set_option maxRecDepth 100000 in
theorem q_2s {V : List Int} {ls : zLs} (h : bLR V (qA2 none) ls) : ∃ u : Option Value, ls = [some (.ref 76), some (.ref 1), u] := by
  obtain ⟨l1, e1, k1⟩ := bls_r h
  obtain ⟨l2, e2, k2⟩ := bls_r k1
  obtain ⟨u, l3, e3, k3⟩ := bls_n k2
  exact ⟨u, by rw [e1, e2, e3, bls_0 k3]⟩
set_option maxRecDepth 100000 in
theorem q_2n {V : List Int} {u : Option Value} : bLR V (qA2 none) [some (.ref 76), some (.ref 1), u] := ⟨⟨_, rfl, rfl⟩, ⟨_, rfl, rfl⟩, trivial, trivial⟩
set_option maxRecDepth 100000 in
theorem q_2i {V : List Int} {f : bI} {ls : zLs} (h : bLR V (qA2 (some (.inl f))) ls) : ∃ x : Int32, ls = [some (.ref 76), some (.ref 1), some (.int x)] ∧ x.toInt = bvx V f := by
  obtain ⟨l1, e1, k1⟩ := bls_r h
  obtain ⟨l2, e2, k2⟩ := bls_r k1
  obtain ⟨u, l3, e3, g3, k3⟩ := bls_i k2
  exact ⟨u, by rw [e1, e2, e3, bls_0 k3], brel_x g3⟩
set_option maxRecDepth 100000 in
theorem q_2m {V : List Int} {f : bI} {x : Int} {xd : Int32} (hf : brel V f x) (hx : xd.toInt = x) : bLR V (qA2 (some (.inl f))) [some (.ref 76), some (.ref 1), some (.int xd)] := ⟨⟨_, rfl, rfl⟩, ⟨_, rfl, rfl⟩, ⟨_, rfl, xd, rfl, by rw [hx]; exact hf⟩, trivial⟩
set_option maxRecDepth 100000 in
theorem linE (hE : E.1 < 2147483648) (hsm : bSO E ctb B (60, smT)) (hb9 : ∀ i, 0 ≤ tp2 h0 i ∧ tp2 h0 i ≤ 255) (hF : 1000000 ≤ F) (hG : F * 2000 ≤ G) (hH : F * 9000 + G * 403 ≤ H) (hL4 : L ≤ 400) {s : Nat} (hs : s ≤ L) (hc : sk isBl (tp2 h0) L s = s) {h : zH} (hr : bRQ ctb wC h0 0 0 h) (ht : CT h (tp2 h0) L s) (hln : 0 ≤ (h0.2.1 77 0).toInt ∧ (h0.2.1 77 0).toInt ≤ 11) :
    ∀ d f, 82 ≤ d → B + H * 1001 + F * 9000 ≤ f → lnQ h0 L (lnq (tp2 h0) L s) (zex E f d 159 0 [some (.ref 76), some (.ref 1), none] [] h) := by
  intro d f hd hf
  have hlr : ∀ {h : zH}, bRQ ctb wC h0 0 0 h → (h.2.1 77 0).toInt = (h0.2.1 77 0).toInt := fun k => by rw [k.2.2.2.1 77 0 wC77]
  have hI : kLn.1 ≤ (h0.2.1 77 0).toInt ∧ (h0.2.1 77 0).toInt ≤ kLn.2 := hln
  have env : ∀ {s : Nat} {a : Int} {ea ek : Int × Int}, s ≤ L → sk isBl (tp2 h0) L s = s → (ea.1 ≤ a ∧ a ≤ ea.2) → (ek.1 ≤ (kK (tp2 h0) L s : Int) ∧ (kK (tp2 h0) L s : Int) ≤ ek.2) → benv (k9 L s (kE (tp2 h0) L s) (kV (tp2 h0) L s) 0 a 0 0 (h0.2.1 77 0).toInt (kK (tp2 h0) L s)) (qE ag_MX kY ea qz qz kLn ek) := fun p1 p2 p3 p4 => q_env (ey := kY) (eb := qz) (ec := qz) (eg := kLn) hL4 p1 p2 ⟨by decide, by decide⟩ p3 q_0 q_0 hI p4
  -- the end: from 82 on
  have last : ∀ (e : Nat), e ≤ L → sk isBl (tp2 h0) L e = e → ∀ (ls' : zLs) (h2 : zH), (∃ u : Option Value, ls' = [some (.ref 76), some (.ref 1), u]) → bRQ ctb wD h0 0 0 h2 → CT h2 (tp2 h0) L e → (h2.2.1 77 0).toInt = (h0.2.1 77 0).toInt → ∀ d f, 82 ≤ d → B + 1000000 ≤ f → lnQ h0 L (.inl e) (zex E f d 159 82 ls' [] h2) := by
    intro e g2 g3 ls' h2 hls k1 k2 k3 d f hd hf
    obtain ⟨u, e1⟩ := hls
    rw [e1]
    obtain ⟨x, h3, x1, x2, x3, x4, x5⟩ := r_fin hE hsm k1 (env (a := 0) (ea := qz) (ek := qk3) g2 g3 q_0 (q_k3 e)) bcs_n (r_ov k2 k3) q_2n (ak := []) (st := []) trivial pl_82 d f (by omega) hf
    refine ⟨x, h3, x1, x3, ?_, x4, ?_⟩
    · rw [x2, bvx_k]
    · rw [x5]
      show 1 + (1 * (h0.2.1 77 0).toInt + 0) = _
      omega
  obtain ⟨m, hm⟩ : ∃ m, f = m + 3 := ⟨f - 3, by omega⟩
  obtain ⟨d', hd'⟩ : ∃ d', d = d' + 1 := ⟨d - 1, by omega⟩
  subst hd'
  obtain ⟨x, h1, y1, y2, y3, y4, y5⟩ := q_wam hE hsm hb9 hF hL4 hs hc hr ht (w := 4) (ws := uKinds) (by decide) waw_4 (by decide) d' m (by omega) (by omega)
  rw [hm, cl_0 (q_ha hr) y5]
  unfold lnq
  by_cases hk : uKinds.any (wqs (tp2 h0) L s) = true
  · rw [if_pos hk]
    obtain ⟨x1, x2⟩ := y1 hk
    have x2 : x.toInt < 4 := x2
    obtain ⟨g1, g2, g3⟩ := gd_n hs hc (wqs_any hk)
    refine q_one hE hsm y3 y4 (env (a := x.toInt) (ea := (0, 3)) (ek := qk3) hs hc (q_i (by omega) (by omega)) (q_k3 s)) bcs_n (k_ov y4) q_2n (show bKR _ [.inl (mv 5)] [.int x] from ⟨⟨x, rfl, brel_v rfl⟩, trivial⟩) pl_6b rfl (B' := B + H * 1001 + F * 8000) (by omega) (fun ls1 h2 i1 i2 i3 d2 f2 hd2 hf2 => ?_) (d' + 1) m (by omega) (by omega)
    obtain ⟨v, v1, v2⟩ := q_2i i1
    unfold mv at v2
    rw [bvx_v] at v2
    have v2 : v.toInt = x.toInt := v2
    obtain ⟨m2, hm2⟩ : ∃ m2, f2 = m2 + 2 := ⟨f2 - 2, by omega⟩
    obtain ⟨d3, hd3⟩ : ∃ d3, d2 = d3 + 1 := ⟨d2 - 1, by omega⟩
    subst hd3
    obtain ⟨h3, t1, t2, t3⟩ := cadv hE hsm hb9 hF hL4 hs hc i2 i3 d3 m2 (by omega) (by omega)
    rw [hm2, v1, cl_21 (q_ha i2) t1]
    have hx3 : ((0, 3) : Int × Int).1 ≤ x.toInt ∧ x.toInt ≤ ((0, 3) : Int × Int).2 := q_i (by omega) (by omega)
    have hk3 := kK_b (tp2 h0) L (nxt (tp2 h0) L s)
    have hl3 : ∀ {y b c g : Int}, bLR (k9 L (nxt (tp2 h0) L s) (kE (tp2 h0) L (nxt (tp2 h0) L s)) (kV (tp2 h0) L (nxt (tp2 h0) L s)) y x.toInt b c g (kK (tp2 h0) L (nxt (tp2 h0) L s))) (qA2 (kvv 5)) [some (.ref 76), some (.ref 1), some (.int v)] := q_2m (brel_v rfl) v2
    by_cases hq : nqs (tp2 h0) L (nxt (tp2 h0) L s) 3 = true
    · rw [if_pos hq]
      have hq2 := hq
      unfold nqs at hq2
      rw [Bool.and_eq_true, decide_eq_true_iff, decide_eq_true_iff] at hq2
      obtain ⟨g4, g5, g6⟩ := gd_n g2 g3 (nqs_K hq)
      have hv9 := kV_b hq2.1
      have hke := kE_b g2 g3
      refine q_one hE hsm t2 t3 (y := 0) (a := x.toInt) (b := 0) (c := 0) (g := (h0.2.1 77 0).toInt) (benv_c (by omega) (by omega) (benv_c (by omega) (by omega) (benv_c (by omega) (by omega) (benv_c hv9.1.1 (hv9.2 hq2.2) (benv_c (by decide) (by decide) (benv_c hx3.1 hx3.2 (benv_c q_0.1 q_0.2 (benv_c q_0.1 q_0.2 (benv_c hI.1 hI.2 (benv_c (by show (1 : Int) ≤ _; omega) (by show _ ≤ (1 : Int); omega) benv_n)))))))))) (bcs_c rfl (by show 0 ≤ 3 + (1 * (nxt (tp2 h0) L s : Int) + ((-1) * (kE (tp2 h0) L (nxt (tp2 h0) L s) : Int) + 0)); omega) bcs_n) (r_ov t3 (hlr t2)) hl3 (ak := []) (st := []) trivial pl_25d rfl (B' := B + H * 1001 + F * 6000) (by omega) (fun ls2 h4 i4 i5 i6 d4 f4 hd4 hf4 => ?_) (d3 + 1) m2 (by omega) (by omega)
      obtain ⟨u, u1, u2⟩ := q_2i i4
      obtain ⟨m3, hm3⟩ : ∃ m3, f4 = m3 + 5 := ⟨f4 - 5, by omega⟩
      obtain ⟨d5, hd5⟩ : ∃ d5, d4 = d5 + 1 := ⟨d4 - 1, by omega⟩
      subst hd5
      obtain ⟨h5, b1, b2, b3⟩ := cadv hE hsm hb9 hF hL4 g2 g3 i5 i6 d5 (m3 + 3) (by omega) (by omega)
      obtain ⟨x6, h6, a1, a2, a3, a4⟩ := q_isw hE hsm hb9 hF hL4 g5 g6 b2 b3 (w := 5) (u := uIf) (by decide) waw_5 (by decide) d5 m3 (by omega) (by omega)
      rw [hm3, u1, cl_54 (q_ha i5) (q_ha b2) b1 a4]
      by_cases hif : wqs (tp2 h0) L (nxt (tp2 h0) L (nxt (tp2 h0) L s)) uIf = true
      · rw [if_pos hif] at a1 ⊢
        subst a1
        obtain ⟨g7, g8, g9⟩ := gd_n g5 g6 (wqs_K hif)
        refine q_one hE hsm a2 a3 (env (a := 0) (ea := qz) (ek := qk3) g5 g6 q_0 (q_k3 _)) bcs_n (k_ov a3) q_2n (q_c (c := 1) rfl) pl_64b rfl (B' := B + H * 1001 + F * 3000) (by omega) (fun ls3 h7 l1 l2 l3 d6 f6 hd6 hf6 => ?_) (d5 + 1) m3 (by omega) (by omega)
        obtain ⟨w, w1⟩ := q_2s l1
        obtain ⟨m4, hm4⟩ : ∃ m4, f6 = m4 + 6 := ⟨f6 - 6, by omega⟩
        obtain ⟨d7, hd7⟩ : ∃ d7, d6 = d7 + 1 := ⟨d6 - 1, by omega⟩
        subst hd7
        obtain ⟨h8, c1, c2, c3⟩ := cadv hE hsm hb9 hF hL4 g5 g6 l2 l3 d7 (m4 + 4) (by omega) (by omega)
        have hcl := (atcl hE hsm hb9 hF hG hH hL4 (G := G) (H := H) (B := B) (h0 := h0) (L := L) 1000).2
        have hcn := cn_of hE hsm hF hL4 hcl (dp := 0) (xd := 0) rfl (by decide) g8 g9 (by omega) c2 c3 d7 m4 (by omega) (by omega)
        obtain ⟨x9, h9, n1, n2, n3⟩ := hcn
        rw [hm4, w1, cl_67 (q_ha l2) (q_hb c2) c1 n1]
        cases hp : pq (tp2 h0) L 1000 true 0 (nxt (tp2 h0) L (nxt (tp2 h0) L (nxt (tp2 h0) L s))) with
        | inr ww =>
          rw [hp] at n3
          obtain ⟨n3, n4⟩ := n3
          obtain ⟨k, hk9⟩ : ∃ k, m4 = k + 3 := ⟨m4 - 3, by omega⟩
          rw [i32_0 n3, hk9, cl_77]
          exact ⟨0, h9, rfl, bRQ_CD n2, rfl, n4⟩
        | inl e =>
          rw [hp] at n3
          obtain ⟨n3, n4⟩ := n3
          obtain ⟨-, g11, g12⟩ := pq_g 1000 true 0 _ e g8 g9 hp
          exact r_one hE hsm (bRQ_CD n2) (env (a := 0) (ea := qz) (ek := qk3) g11 g12 q_0 (q_k3 e)) bcs_n (r_ov n4 (hlr n2)) q_2n (q_c n3) pl_77 rfl (B' := B + 1000000) (by omega) (fun ls4 h10 r1 r2 r3 r4 d8 f8 hd8 hf8 => last e g11 g12 ls4 h10 (q_2s r1) r2 r3 (by rw [r4]; unfold mv; rw [bvx_v]; rfl) d8 f8 hd8 hf8) (d7 + 1) m4 (by omega) (by omega)
      · rw [if_neg hif] at a1 ⊢
        subst a1
        exact r_one hE hsm (bRQ_CD a2) (env (a := 0) (ea := qz) (ek := qk3) g5 g6 q_0 (q_k3 _)) bcs_n (r_ov a3 (hlr a2)) q_2n (q_c (c := 0) rfl) pl_64 rfl (B' := B + 1000000) (by omega) (fun ls4 h10 r1 r2 r3 r4 d8 f8 hd8 hf8 => last _ g5 g6 ls4 h10 (q_2s r1) r2 r3 (by rw [r4]; unfold mv; rw [bvx_v]; rfl) d8 f8 hd8 hf8) (d5 + 1) m3 (by omega) (by omega)
    · rw [if_neg hq]
      refine lnQ_0 ?_
      by_cases hK0 : kK (tp2 h0) L (nxt (tp2 h0) L s) = 0
      · exact q_fin0 hE hsm t2 t3 (env (ek := qz) g2 g3 hx3 (q_i (by omega) (by omega))) bcs_n (k_ov t3) hl3 (ak := []) (st := []) trivial pl_25a (d3 + 1) m2 (by omega) (by omega)
      · by_cases hK1 : kK (tp2 h0) L (nxt (tp2 h0) L s) = 1
        · have h4 : ¬ kE (tp2 h0) L (nxt (tp2 h0) L s) - nxt (tp2 h0) L s ≤ 3 := fun z => hq (by unfold nqs; rw [Bool.and_eq_true, decide_eq_true_iff, decide_eq_true_iff]; exact ⟨hK1, z⟩)
          exact q_fin0 hE hsm t2 t3 (env (ek := (1, 1)) g2 g3 hx3 (q_i (by omega) (by omega))) (bcs_c rfl (by show 0 ≤ -4 + ((-1) * (nxt (tp2 h0) L s : Int) + (1 * (kE (tp2 h0) L (nxt (tp2 h0) L s) : Int) + 0)); omega) bcs_n) (k_ov t3) hl3 (ak := []) (st := []) trivial pl_25c (d3 + 1) m2 (by omega) (by omega)
        · exact q_fin0 hE hsm t2 t3 (env (ek := (2, 3)) g2 g3 hx3 (q_i (by omega) (by omega))) bcs_n (k_ov t3) hl3 (ak := []) (st := []) trivial pl_25b (d3 + 1) m2 (by omega) (by omega)
  · have hk := bFls hk
    rw [if_neg (by rw [hk]; decide)]
    exact lnQ_0 (q_fin0 hE hsm y3 y4 (env (a := 0) (ea := qz) (ek := qk3) hs hc q_0 (q_k3 s)) bcs_n (k_ov y4) q_2n (q_c (y2 hk)) pl_6a (d' + 1) m (by omega) (by omega))
end RL
