/-! the class's words: wordAmong, exactly -/
def waL (w : Nat) (k m i : Int) : bLs := [some (.inr (.inl (.ref 1))), some (.inr (.inl (.retAddr w))), some (.inl (k, [])), some (.inl (m, [])), some (.inl (i, [])), none]
def waE (b : Int × Int) : bE := [(0, 400), (0, 400), b]
def waO : bO := [(1, (3, []), (0, [(0, 1)])), (1, (4, []), (0, [(1, 1)]))]
def waOb (m : Int) : bO := [(2, (m, [(0, 1)]), (0, [(2, 1)]))]
def waN (w : Nat) (k m i : Int) (b : Int × Int) : bNd := (17, waL w k m i, waE b, [], [], (0, []), (0, []), (0, []))
noncomputable def waR (w : Nat) (fin : bS → Option bV → Bool) (L : List bNd) (b : Int × Int) (cs : bC) (ov : bO) (k m i : Int) : Bool := btz 0 (60, smT) ctb fin 60 185 1000000 3 L (3, waE b, cs, ov, (0, []), (0, [])) 17 (waL w k m i)
def waLt (m : Int) : bI := (-1 - m, [(0, -1), (1, 1)])
def waGe (m : Int) : bI := (m, [(0, 1), (1, -1)])
/-- one more than m at least -/
def waGt (m : Int) : bI := (m - 1, [(0, 1), (1, -1)])
def waSe : bI := (0, [(0, -1), (1, 1)])
noncomputable def waF (k : Int) : bS → Option bV → Bool := bfn 0 0 3 (bidl 3 0) [([], [], some (.inl (k, [])), [])]
noncomputable def waLet (w k m i c : Nat) : Bool := bfo (.ofNat k) fun k => bfo (.ofNat m) fun m => bfo (.ofNat (i + 1)) fun i1 => bfo (.ofNat i) fun i => bfo (.ofNat c) fun c => bfo (m + 1) fun m1 => bfo (c - 1) fun cl => bfo (c + 1) fun ch =>
  cond (waR w ag_no9 [waN w k m1 i1 (c, c)] (c, c) [waLt m] (waO ++ waOb m) k m i) (cond (waR w ag_no9 [waN w k (-1) i1 (0, cl)] (0, cl) [waLt m] (waO ++ waOb m) k m i) (cond (waR w ag_no9 [waN w k (-1) i1 (ch, 255)] (ch, 255) [waLt m] (waO ++ waOb m) k m i)
    (cond (waR w ag_no9 [waN w k (-1) i1 (0, 255)] (0, 255) [waGe m] waO k m i) (waR w ag_no9 [waN w k (-1) i1 (0, 255)] (0, 255) [] waO k (-1) i) false) false) false) false
noncomputable def waBl (w k m i : Nat) : Bool := bfo (.ofNat k) fun k => bfo (.ofNat m) fun m => bfo (.ofNat (i + 1)) fun i1 => bfo (.ofNat i) fun i => bfo (k + 1) fun k1 =>
  cond (waR w (waF k) [] (0, 255) [waGe m, (0 - m, [(0, -1), (1, 1)])] waO k m i) (cond (waR w ag_no9 [waN w k1 0 i1 (0, 255)] (0, 255) [waLt m] waO k m i) (cond (waR w ag_no9 [waN w k1 0 i1 (0, 255)] (0, 255) [waGt m] waO k m i) (waR w ag_no9 [waN w k1 0 i1 (0, 255)] (0, 255) [waSe] waO k (-1) i) false) false) false
noncomputable def waOut (w k i : Nat) : Bool := bfo (.ofNat k) fun k => bfo (.ofNat i) fun i => waR w (waF (-1)) [] (0, 255) [] waO k 0 i
noncomputable def waWord (w k : Nat) : List Nat → Nat → Nat → Bool
  | [], m, i => waBl w k m i
  | c :: u, m, i => cond (waLet w k m i c) (waWord w k u (m + 1) (i + 1)) false
noncomputable def waWords (w : Nat) : List (List Nat) → Nat → Nat → Bool
  | [], k, i => waOut w k i
  | u :: ws, k, i => cond (waWord w k u 0 i) (waWords w ws (k + 1) (i + u.length + 1)) false
set_option maxRecDepth 100000 in
theorem waw_5 : waWords 5 [[105, 102]] 0 0 = true := by decide +kernel
set_option maxRecDepth 100000 in
theorem waw_6 : waWords 6 [[110, 111, 116]] 0 0 = true := by decide +kernel
set_option maxRecDepth 100000 in
theorem waw_8 : waWords 8 [[119, 101, 116]] 0 0 = true := by decide +kernel
set_option maxRecDepth 100000 in
theorem waw_10 : waWords 10 [[97, 110, 100]] 0 0 = true := by decide +kernel
set_option maxRecDepth 100000 in
theorem waw_11 : waWords 11 [[111, 114]] 0 0 = true := by decide +kernel
def txm (T : Nat → Int) : List Nat → Nat → Bool
  | [], _ => true
  | c :: u, s => decide (T s = (c : Int)) && txm T u (s + 1)
/-- is the text from s to e that word? -/
def txq (T : Nat → Int) (s e : Nat) (u : List Nat) : Bool := decide (e = s + u.length) && txm T u s
def firstq (T : Nat → Int) (s e : Nat) : List (List Nat) → Nat → Int
  | [], _ => -1
  | u :: ws, k => if txq T s e u = true then (k : Int) else firstq T s e ws (k + 1)
def wval (T : Nat → Int) (s e k : Nat) (r : Int) : List Nat → Nat → Int
  | [], m => if e = s + m then (k : Int) else r
  | c :: u, m => if T (s + m) = (c : Int) ∧ s + m < e then wval T s e k r u (m + 1) else r
set_option maxRecDepth 100000 in
theorem wval_s {T : Nat → Int} {s e k : Nat} {r : Int} : ∀ (u : List Nat) (m : Nat), wval T s e k r u m = if (decide (e = s + m + u.length) && txm T u (s + m)) = true then (k : Int) else r
  | [], m => by
    show (if e = s + m then (k : Int) else r) = _
    by_cases h : e = s + m
    · rw [if_pos h, if_pos (by simp [txm, h])]
    · rw [if_neg h, if_neg (by simp [txm]; exact h)]
  | c :: u, m => by
    show (if T (s + m) = (c : Int) ∧ s + m < e then wval T s e k r u (m + 1) else r) = _
    rw [wval_s u (m + 1)]
    have e1 : s + m + (c :: u).length = s + (m + 1) + u.length := by simp only [List.length_cons]; omega
    rw [e1]
    show _ = if (decide (e = s + (m + 1) + u.length) && (decide (T (s + m) = (c : Int)) && txm T u (s + m + 1))) = true then (k : Int) else r
    rw [show s + (m + 1) = s + m + 1 by omega]
    by_cases h1 : T (s + m) = (c : Int)
    · by_cases h2 : e = s + m + 1 + u.length
      · rw [if_pos ⟨h1, by omega⟩, decide_eq_true h1, Bool.true_and]
      · by_cases h3 : s + m < e
        · rw [if_pos ⟨h1, h3⟩, decide_eq_true h1, Bool.true_and]
        · rw [if_neg (fun z => h3 z.2), if_neg (by rw [decide_eq_false h2, Bool.false_and]; decide)]
    · rw [if_neg (fun z => h1 z.1), decide_eq_false h1, Bool.false_and, Bool.and_false, if_neg (by decide)]
set_option maxRecDepth 100000 in
theorem bls_g {V : List Int} {v : Value} {l : bLs} : ∀ {ls : zLs}, bLR V (some (.inr (.inl v)) :: l) ls → ∃ r, ls = some v :: r ∧ bLR V l r
  | [], h => h.elim
  | o :: r, h => by
    obtain ⟨x, h1, h2⟩ := h.1
    have h2 : x = v := h2
    exact ⟨r, by rw [h1, h2], h.2⟩
def waQ (h0 : zH) (r : Int) (o : Option zR) : Prop := ∃ (x : Int32) (h1 : zH), o = some (.inl (some (.int x)), h1) ∧ x.toInt = r ∧ bRQ ctb 0 h0 0 0 h1
/-- from the loop's head in that state the answer is val, within n turns -/
def waG (E : zE) (B F : Nat) (h0 : zH) (w : Nat) (k m i val : Int) (n : Nat) : Prop := ∀ (h : zH) (x2 x3 x4 : Int32) (v5 : Option Value), bRQ ctb 0 h0 0 0 h → x2.toInt = k → x3.toInt = m → x4.toInt = i → ∀ d f, 60 ≤ d → B + F * n ≤ f → waQ h0 val (zex E f d 185 17 [some (.ref 1), some (.retAddr w), some (.int x2), some (.int x3), some (.int x4), v5] [] h)
set_option maxRecDepth 100000 in
theorem b0_eq {h0 h : zH} {a b : Nat} (hr : bRQ ctb 0 h0 a b h) (c k : Nat) : h.2.1 c k = h0.2.1 c k := hr.2.2.2.1 c k (Nat.zero_testBit _)
section WA
variable {E : zE} {B F : Nat} {h0 : zH} {s e w : Nat}
set_option maxRecDepth 100000 in
theorem wa_al {V : List Int} {k m i : Int} {x2 x3 x4 : Int32} {v5 : Option Value} (h2 : x2.toInt = k) (h3 : x3.toInt = m) (h4 : x4.toInt = i) : bLR V (waL w k m i) [some (.ref 1), some (.retAddr w), some (.int x2), some (.int x3), some (.int x4), v5] :=
  ⟨⟨_, rfl, rfl⟩, ⟨_, rfl, rfl⟩, ⟨_, rfl, x2, rfl, by rw [h2]; exact brel_c V k⟩, ⟨_, rfl, x3, rfl, by rw [h3]; exact brel_c V m⟩, ⟨_, rfl, x4, rfl, by rw [h4]; exact brel_c V i⟩, trivial, trivial⟩
set_option maxRecDepth 100000 in
theorem wa_als {V : List Int} {k m i : Int} {ls : zLs} (h : bLR V (waL w k m i) ls) : ∃ x2 x3 x4 : Int32, ∃ v5, ls = [some (.ref 1), some (.retAddr w), some (.int x2), some (.int x3), some (.int x4), v5] ∧ x2.toInt = k ∧ x3.toInt = m ∧ x4.toInt = i := by
  obtain ⟨l1, e1, k1⟩ := bls_g h
  obtain ⟨l2, e2, k2⟩ := bls_g k1
  obtain ⟨x2, l3, e3, g3, k3⟩ := bls_i k2
  obtain ⟨x3, l4, e4, g4, k4⟩ := bls_i k3
  obtain ⟨x4, l5, e5, g5, k5⟩ := bls_i k4
  obtain ⟨v5, l6, e6, k6⟩ := bls_n k5
  exact ⟨x2, x3, x4, v5, by rw [e1, e2, e3, e4, e5, e6, bls_0 k6], brel_k g3, brel_k g4, brel_k g5⟩
set_option maxRecDepth 100000 in
theorem wa_o {h : zH} {y : Int} (hr : bRQ ctb 0 h0 0 0 h) (hs : (h0.2.1 1 3).toInt = (s : Int)) (he : (h0.2.1 1 4).toInt = (e : Int)) : bOV E [(s : Int), (e : Int), y] waO h :=
  bov_c (k := 3) rfl rfl rfl rfl (by rw [bvx_v, b0_eq hr]; exact hs) (bov_c (k := 4) rfl rfl rfl rfl (by rw [bvx_v, b0_eq hr]; exact he) bov_n)
set_option maxRecDepth 100000 in
theorem wa_ob {h : zH} {m : Nat} (hr : bRQ ctb 0 h0 0 0 h) : bOV E [(s : Int), (e : Int), tp2 h0 (s + m)] (waOb m) h :=
  bov_c (k := s + m) rfl rfl (by show ((s + m : Nat) : Int) = (m : Int) + (1 * (s : Int) + 0); omega) rfl (by rw [bvx_v, b0_eq hr]; rfl) bov_n
set_option maxRecDepth 100000 in
theorem wa_seg (hE : E.1 < 2147483648) (hsm : bSO E ctb B (60, smT)) (h4 : e ≤ 400) (hse : s ≤ e) {b : Int × Int} {y : Int} (hy : b.1 ≤ y ∧ y ≤ b.2) {cs : bC} {ov : bO} (hcs : bcs [(s : Int), (e : Int), y] cs) {h : zH} (hov : bOV E [(s : Int), (e : Int), y] ov h) {k m i k' m' i' val : Int} {n : Nat} (c : waR w ag_no9 [waN w k' m' i' b] b cs ov k m i = true) (hn : waG E B F h0 w k' m' i' val n) (hF : 1000000 ≤ F)
    (hr : bRQ ctb 0 h0 0 0 h) {x2 x3 x4 : Int32} {v5 : Option Value} (g2 : x2.toInt = k) (g3 : x3.toInt = m) (g4 : x4.toInt = i) : ∀ d f, 60 ≤ d → B + F * (n + 1) ≤ f → waQ h0 val (zex E f d 185 17 [some (.ref 1), some (.retAddr w), some (.int x2), some (.int x3), some (.int x4), v5] [] h) := by
  intro d f hd hf
  have hmul : F * (n + 1) = F * n + F := Nat.mul_succ F n
  refine seg (V := [(s : Int), (e : Int), y]) (ca := 0) (sa := 0) (nv := 3) hE hsm (fun V S v w h _ _ _ z => nomatch (show false = true from z)) hr (benv_c (by omega) (by omega) (benv_c (by omega) (by omega) (benv_c hy.1 hy.2 benv_n))) rfl hcs hov (wa_al g2 g3 g4) c (B' := B + F * n) (Nat.le_add_right _ _) ?_ ?_ d f hd (by omega)
  · intro N hN
    cases hN with
    | head => exact ⟨rfl, rfl, rfl⟩
    | tail _ hN => exact absurd hN List.not_mem_nil
  · intro N hN ls' h' k1 k2 k3 d f hd hf
    cases hN with
    | tail _ hN => exact absurd hN List.not_mem_nil
    | head =>
      obtain ⟨y2, y3, y4, v6, e1, j2, j3, j4⟩ := wa_als k1
      rw [e1]
      exact hn h' y2 y3 y4 v6 k2 j2 j3 j4 d f hd hf
set_option maxRecDepth 100000 in
theorem wa_ret (hE : E.1 < 2147483648) (hsm : bSO E ctb B (60, smT)) (h4 : e ≤ 400) (hse : s ≤ e) {cs : bC} {ov : bO} (hcs : bcs [(s : Int), (e : Int), 0] cs) {h : zH} (hov : bOV E [(s : Int), (e : Int), 0] ov h) {k m i val : Int} (c : waR w (waF val) [] (0, 255) cs ov k m i = true) (hF : 1000000 ≤ F)
    (hr : bRQ ctb 0 h0 0 0 h) {x2 x3 x4 : Int32} {v5 : Option Value} (g2 : x2.toInt = k) (g3 : x3.toInt = m) (g4 : x4.toInt = i) {n : Nat} : ∀ d f, 60 ≤ d → B + F * (n + 1) ≤ f → waQ h0 val (zex E f d 185 17 [some (.ref 1), some (.retAddr w), some (.int x2), some (.int x3), some (.int x4), v5] [] h) := by
  intro d f hd hf
  have hmul : F * (n + 1) = F * n + F := Nat.mul_succ F n
  refine seg (V := [(s : Int), (e : Int), 0]) (ca := 0) (sa := 0) (nv := 3) hE hsm (fin_n (V := [(s : Int), (e : Int), 0]) (ca := 0) (sa := 0) rfl (fun u h' k1 k2 k3 => ?_)) hr (benv_c (by omega) (by omega) (benv_c (by omega) (by omega) (benv_c (by decide) (by decide) benv_n))) rfl hcs hov (wa_al g2 g3 g4) c (Nat.le_refl B) (fun N hN => absurd hN List.not_mem_nil) (fun N hN => absurd hN List.not_mem_nil) d f hd (by omega)
  cases u with
  | none => exact k2.elim
  | some u =>
    obtain ⟨x, x1, x2⟩ := k2
    exact ⟨x, h', by rw [x1], brel_k x2, k1⟩
set_option maxRecDepth 100000 in
theorem wa_let (hE : E.1 < 2147483648) (hsm : bSO E ctb B (60, smT)) (hF : 1000000 ≤ F) (h4 : e ≤ 400) (hse : s ≤ e) (hs : (h0.2.1 1 3).toInt = (s : Int)) (he : (h0.2.1 1 4).toInt = (e : Int)) (hb : ∀ i, 0 ≤ tp2 h0 i ∧ tp2 h0 i ≤ 255) {k m i c : Nat} (hc : waLet w k m i c = true) {v1 v2 : Int} {n : Nat} (n1 : waG E B F h0 w k ((m + 1 : Nat) : Int) ((i + 1 : Nat) : Int) v1 n) (n2 : waG E B F h0 w k (-1) ((i + 1 : Nat) : Int) v2 n) :
    waG E B F h0 w k m i (if tp2 h0 (s + m) = (c : Int) ∧ s + m < e then v1 else v2) (n + 1) ∧ waG E B F h0 w k (-1) i v2 (n + 1) := by
  unfold waLet at hc
  simp only [bfo_eq] at hc
  obtain ⟨c1, hc⟩ := bcnd hc
  obtain ⟨c2, hc⟩ := bcnd hc
  obtain ⟨c3, hc⟩ := bcnd hc
  obtain ⟨c4, c5⟩ := bcnd hc
  have hbb := hb (s + m)
  constructor
  · intro h x2 x3 x4 v5 hr g2 g3 g4 d f hd hf
    by_cases hlt : s + m < e
    · have hcs : bcs [(s : Int), (e : Int), tp2 h0 (s + m)] [waLt m] := bcs_c rfl (by show 0 ≤ -1 - (m : Int) + ((-1) * (s : Int) + (1 * (e : Int) + 0)); omega) bcs_n
      by_cases hT : tp2 h0 (s + m) = (c : Int)
      · rw [if_pos ⟨hT, hlt⟩]
        exact wa_seg hE hsm h4 hse (b := ((c : Int), (c : Int))) ⟨by omega, by omega⟩ hcs (bov_app (wa_o hr hs he) (wa_ob hr)) c1 n1 hF hr g2 g3 g4 d f hd hf
      · rw [if_neg (fun z => hT z.1)]
        by_cases hlo : tp2 h0 (s + m) ≤ (c : Int) - 1
        · exact wa_seg hE hsm h4 hse (b := (0, (c : Int) - 1)) ⟨hbb.1, hlo⟩ hcs (bov_app (wa_o hr hs he) (wa_ob hr)) c2 n2 hF hr g2 g3 g4 d f hd hf
        · exact wa_seg hE hsm h4 hse (b := ((c : Int) + 1, 255)) ⟨by show (c : Int) + 1 ≤ _; omega, hbb.2⟩ hcs (bov_app (wa_o hr hs he) (wa_ob hr)) c3 n2 hF hr g2 g3 g4 d f hd hf
    · rw [if_neg (fun z => hlt z.2)]
      exact wa_seg hE hsm h4 hse (b := (0, 255)) (y := 0) ⟨by decide, by decide⟩ (bcs_c rfl (by show 0 ≤ (m : Int) + (1 * (s : Int) + ((-1) * (e : Int) + 0)); omega) bcs_n) (wa_o hr hs he) c4 n2 hF hr g2 g3 g4 d f hd hf
  · intro h x2 x3 x4 v5 hr g2 g3 g4 d f hd hf
    exact wa_seg hE hsm h4 hse (b := (0, 255)) (y := 0) ⟨by decide, by decide⟩ bcs_n (wa_o hr hs he) c5 n2 hF hr g2 g3 g4 d f hd hf
set_option maxRecDepth 100000 in
theorem wa_bl (hE : E.1 < 2147483648) (hsm : bSO E ctb B (60, smT)) (hF : 1000000 ≤ F) (h4 : e ≤ 400) (hse : s ≤ e) (hs : (h0.2.1 1 3).toInt = (s : Int)) (he : (h0.2.1 1 4).toInt = (e : Int)) (hb : ∀ i, 0 ≤ tp2 h0 i ∧ tp2 h0 i ≤ 255) {k m i : Nat} (hc : waBl w k m i = true) {v2 : Int} {n : Nat} (n2 : waG E B F h0 w ((k + 1 : Nat) : Int) 0 ((i + 1 : Nat) : Int) v2 n) :
    waG E B F h0 w k m i (if e = s + m then (k : Int) else v2) (n + 1) ∧ waG E B F h0 w k (-1) i v2 (n + 1) := by
  unfold waBl at hc
  simp only [bfo_eq] at hc
  obtain ⟨c1, hc⟩ := bcnd hc
  obtain ⟨c2, hc⟩ := bcnd hc
  obtain ⟨c3, c4⟩ := bcnd hc
  constructor
  · intro h x2 x3 x4 v5 hr g2 g3 g4 d f hd hf
    by_cases heq : e = s + m
    · rw [if_pos heq]
      exact wa_ret hE hsm h4 hse (bcs_c rfl (by show 0 ≤ (m : Int) + (1 * (s : Int) + ((-1) * (e : Int) + 0)); omega) (bcs_c rfl (by show 0 ≤ 0 - (m : Int) + ((-1) * (s : Int) + (1 * (e : Int) + 0)); omega) bcs_n)) (wa_o hr hs he) c1 hF hr g2 g3 g4 d f hd hf
    · rw [if_neg heq]
      by_cases hlt : s + m < e
      · exact wa_seg hE hsm h4 hse (b := (0, 255)) (y := 0) ⟨by decide, by decide⟩ (bcs_c rfl (by show 0 ≤ -1 - (m : Int) + ((-1) * (s : Int) + (1 * (e : Int) + 0)); omega) bcs_n) (wa_o hr hs he) c2 n2 hF hr g2 g3 g4 d f hd hf
      · exact wa_seg hE hsm h4 hse (b := (0, 255)) (y := 0) ⟨by decide, by decide⟩ (bcs_c rfl (by show 0 ≤ (m : Int) - 1 + (1 * (s : Int) + ((-1) * (e : Int) + 0)); omega) bcs_n) (wa_o hr hs he) c3 n2 hF hr g2 g3 g4 d f hd hf
  · intro h x2 x3 x4 v5 hr g2 g3 g4 d f hd hf
    exact wa_seg hE hsm h4 hse (b := (0, 255)) (y := 0) ⟨by decide, by decide⟩ (bcs_c rfl (by show 0 ≤ 0 + ((-1) * (s : Int) + (1 * (e : Int) + 0)); omega) bcs_n) (wa_o hr hs he) c4 n2 hF hr g2 g3 g4 d f hd hf
set_option maxRecDepth 100000 in
theorem wa_word (hE : E.1 < 2147483648) (hsm : bSO E ctb B (60, smT)) (hF : 1000000 ≤ F) (h4 : e ≤ 400) (hse : s ≤ e) (hs : (h0.2.1 1 3).toInt = (s : Int)) (he : (h0.2.1 1 4).toInt = (e : Int)) (hb : ∀ i, 0 ≤ tp2 h0 i ∧ tp2 h0 i ≤ 255) {k : Nat} {r : Int} {n : Nat} : ∀ (u : List Nat) (m i : Nat), waWord w k u m i = true → waG E B F h0 w ((k + 1 : Nat) : Int) 0 ((i + u.length + 1 : Nat) : Int) r n →
    waG E B F h0 w k m i (wval (tp2 h0) s e k r u m) (n + 1 + u.length) ∧ waG E B F h0 w k (-1) i r (n + 1 + u.length)
  | [], m, i, hc, hn => wa_bl hE hsm hF h4 hse hs he hb hc hn
  | c :: u, m, i, hc, hn => by
    obtain ⟨c1, c2⟩ := bcnd (show cond (waLet w k m i c) (waWord w k u (m + 1) (i + 1)) false = true from hc)
    rw [show i + (c :: u).length + 1 = i + 1 + u.length + 1 by simp only [List.length_cons]; omega] at hn
    obtain ⟨g1, g2⟩ := wa_word hE hsm hF h4 hse hs he hb u (m + 1) (i + 1) c2 hn
    exact wa_let hE hsm hF h4 hse hs he hb c1 g1 g2
set_option maxRecDepth 100000 in
theorem wa_words (hE : E.1 < 2147483648) (hsm : bSO E ctb B (60, smT)) (hF : 1000000 ≤ F) (h4 : e ≤ 400) (hse : s ≤ e) (hs : (h0.2.1 1 3).toInt = (s : Int)) (he : (h0.2.1 1 4).toInt = (e : Int)) (hb : ∀ i, 0 ≤ tp2 h0 i ∧ tp2 h0 i ≤ 255) : ∀ (ws : List (List Nat)) (k i : Nat), waWords w ws k i = true → ∃ n, n ≤ 1 + (ws.map fun u => u.length + 1).sum ∧ waG E B F h0 w k 0 i (firstq (tp2 h0) s e ws k) n
  | [], k, i, hc => by
    refine ⟨1, Nat.le_refl _, ?_⟩
    intro h x2 x3 x4 v5 hr g2 g3 g4 d f hd hf
    have hc : waOut w k i = true := hc
    unfold waOut at hc
    simp only [bfo_eq] at hc
    exact wa_ret hE hsm h4 hse bcs_n (wa_o hr hs he) hc hF hr g2 g3 g4 (n := 0) d f hd hf
  | u :: ws, k, i, hc => by
    obtain ⟨c1, c2⟩ := bcnd (show cond (waWord w k u 0 i) (waWords w ws (k + 1) (i + u.length + 1)) false = true from hc)
    obtain ⟨n, n1, n2⟩ := wa_words hE hsm hF h4 hse hs he hb ws (k + 1) (i + u.length + 1) c2
    obtain ⟨g1, -⟩ := wa_word hE hsm hF h4 hse hs he hb u 0 i c1 n2
    refine ⟨n + 1 + u.length, ?_, ?_⟩
    · simp only [List.map_cons, List.sum_cons]
      omega
    · have e1 := wval_s (T := tp2 h0) (s := s) (e := e) (k := k) (r := firstq (tp2 h0) s e ws (k + 1)) u 0
      rw [e1] at g1
      exact g1
end WA
