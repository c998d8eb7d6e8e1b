/-! the class's tape: what advance leaves -/
/-- what the class's law writes, but for how many lines its text has -/
def wC : Nat := 1594584708043749287798733258756289915015332447734155484942367232
def wCm : Nat := 4562440617622195218641171605700291324893228507248559930579192517899275167208677386505912811317371399778642309573594407310688704721375237130997128945937771442990452029034949674708651343142191103
set_option maxRecDepth 100000 in
theorem wC_e : wC = Nat.land sc1.2.1 wCm := by decide +kernel
set_option maxRecDepth 100000 in
theorem wC_f {i : Nat} (h : Nat.testBit sc1.2.1 i = false) : Nat.testBit wC i = false := by
  rw [wC_e]
  show Nat.testBit (sc1.2.1 &&& wCm) i = false
  rw [Nat.testBit_and, h, Bool.false_and]
set_option maxRecDepth 100000 in
theorem wC77 : Nat.testBit wC (bun 77 0) = false := by decide +kernel
set_option maxRecDepth 100000 in
theorem wC2 : Nat.testBit wC (bun 2 0) = false := by decide +kernel
def ag_aL (f : bI) : bLs := [some (.inr (.inl (.ref 1))), some (.inl f)]
def ag_aP (k s v : bI) : bPv := [(1, 1, (0, [(0, 1)])), (1, 2, k), (1, 3, s), (1, 5, v)]
def ag_aO (k s v : bI) : bO := [(1, (1, []), (0, [(0, 1)])), (1, (2, []), k), (1, (3, []), s), (1, (5, []), v)]
def ag_aB : bO := [(2, (0, [(1, 1)]), (0, [(4, 1)]))]
def ag_aN (pc : Nat) (e : bE) (ca sa : Nat) (at9 : bI) (pov : bPv) : bNd := (pc, ag_aL at9, e, [], pov, ((ca : Int), []), ((sa : Int), []), (0, []))
/-- L, at, start, value, byte -/
def ag_aE (v b : Int × Int) : bE := [(0, 400), (0, 400), (0, 400), v, b]
def ag_lt9 : bI := (-1, [(0, 1), (1, -1)])
def ag_ge9 : bI := (0, [(0, -1), (1, 1)])
def ag_f0 : bI := (0, [(1, 1)])
def ag_f1 : bI := (1, [(1, 1)])
def ag_fs : bI := (0, [(2, 1)])
def ag_fv : bI := (0, [(3, 1)])
def ag_MX : Int × Int := (0, 999999999)
noncomputable def ag_aF (k b9 : bI) : bS → Option bV → Bool := bfn 0 0 5 (bidl 5 0) [([], [], none, [(1, 1, (0, [(0, 1)])), (1, 2, k), (1, 3, ag_fs), (1, 4, b9), (1, 5, ag_fv)])]
noncomputable def ag_aR (fin : bS → Option bV → Bool) (L : List bNd) (e : bE) (cs : bC) (ov : bO) (pc : Nat) : Bool := btz wC (60, smT) ctb fin 60 181 1000000 5 L (5, e, cs, ov, (0, []), (0, [])) pc (ag_aL ag_f0)
def ag_no9 : bS → Option bV → Bool := fun _ _ => false
def ag_aO1 : bO := [(1, (1, []), (0, [(0, 1)]))]
set_option maxRecDepth 100000 in
theorem ag_a1 : ag_aR ag_no9 [ag_aN 5 (ag_aE ag_MX (32, 32)) 0 0 ag_f1 [(1, 1, (0, [(0, 1)]))]] (ag_aE ag_MX (32, 32)) [ag_lt9] (ag_aO1 ++ ag_aB) 5 = true := by decide +kernel
set_option maxRecDepth 100000 in
theorem ag_a2 : ag_aR ag_no9 [ag_aN 57 (ag_aE ag_MX (0, 255)) 0 0 ag_f0 (ag_aP (0, []) ag_f0 (0, []))] (ag_aE ag_MX (0, 255)) [ag_ge9] ag_aO1 5 = true := by decide +kernel
set_option maxRecDepth 100000 in
theorem ag_a3 : ag_aR ag_no9 [ag_aN 57 (ag_aE ag_MX (0, 31)) 0 0 ag_f0 (ag_aP (3, []) ag_f0 (0, []))] (ag_aE ag_MX (0, 31)) [ag_lt9] (ag_aO1 ++ ag_aB) 5 = true := by decide +kernel
set_option maxRecDepth 100000 in
theorem ag_a4 : ag_aR ag_no9 [ag_aN 57 (ag_aE ag_MX (33, 255)) 0 0 ag_f0 (ag_aP (3, []) ag_f0 (0, []))] (ag_aE ag_MX (33, 255)) [ag_lt9] (ag_aO1 ++ ag_aB) 5 = true := by decide +kernel
set_option maxRecDepth 100000 in
theorem ag_b1 : ag_aR ag_no9 [ag_aN 57 (ag_aE (0, 99999999) (48, 57)) 0 0 ag_f1 (ag_aP (1, []) ag_fs (-48, [(3, 10), (4, 1)]))] (ag_aE (0, 99999999) (48, 57)) [ag_lt9, (8, [(1, -1), (2, 1)])] (ag_aO (3, []) ag_fs ag_fv ++ ag_aB) 57 = true := by decide +kernel
set_option maxRecDepth 100000 in
theorem ag_b2 : ag_aR ag_no9 [ag_aN 57 (ag_aE (0, 99999999) (48, 57)) 0 0 ag_f1 (ag_aP (1, []) ag_fs (-48, [(3, 10), (4, 1)]))] (ag_aE (0, 99999999) (48, 57)) [ag_lt9, (8, [(1, -1), (2, 1)])] (ag_aO (1, []) ag_fs ag_fv ++ ag_aB) 57 = true := by decide +kernel
set_option maxRecDepth 100000 in
theorem ag_b3 : ag_aR ag_no9 [ag_aN 57 (ag_aE ag_MX (48, 57)) 0 0 ag_f1 (ag_aP (1, []) ag_fs ag_fv)] (ag_aE ag_MX (48, 57)) [ag_lt9, (-9, [(1, 1), (2, -1)])] (ag_aO (1, []) ag_fs ag_fv ++ ag_aB) 57 = true := by decide +kernel
set_option maxRecDepth 100000 in
theorem ag_b4 : ag_aR ag_no9 [ag_aN 130 (ag_aE ag_MX (0, 255)) 0 0 ag_f0 (ag_aP (0, []) ag_fs ag_fv)] (ag_aE ag_MX (0, 255)) [ag_ge9] (ag_aO (0, []) ag_fs ag_fv) 57 = true := by decide +kernel
set_option maxRecDepth 100000 in
theorem ag_b5 : ag_aR ag_no9 [ag_aN 130 (ag_aE ag_MX (0, 255)) 0 0 ag_f0 (ag_aP (1, []) ag_fs ag_fv)] (ag_aE ag_MX (0, 255)) [ag_ge9] (ag_aO (1, []) ag_fs ag_fv) 57 = true := by decide +kernel
set_option maxRecDepth 100000 in
theorem ag_b6 : ag_aR ag_no9 [ag_aN 130 (ag_aE ag_MX (0, 47)) 0 0 ag_f0 (ag_aP (1, []) ag_fs ag_fv)] (ag_aE ag_MX (0, 47)) [ag_lt9] (ag_aO (1, []) ag_fs ag_fv ++ ag_aB) 57 = true := by decide +kernel
set_option maxRecDepth 100000 in
theorem ag_b7 : ag_aR ag_no9 [ag_aN 130 (ag_aE ag_MX (58, 255)) 0 0 ag_f0 (ag_aP (1, []) ag_fs ag_fv)] (ag_aE ag_MX (58, 255)) [ag_lt9] (ag_aO (1, []) ag_fs ag_fv ++ ag_aB) 57 = true := by decide +kernel
set_option maxRecDepth 100000 in
theorem ag_b8 : ag_aR ag_no9 [ag_aN 130 (ag_aE ag_MX (0, 47)) 0 0 ag_f0 (ag_aP (3, []) ag_fs ag_fv)] (ag_aE ag_MX (0, 47)) [ag_lt9] (ag_aO (3, []) ag_fs ag_fv ++ ag_aB) 57 = true := by decide +kernel
set_option maxRecDepth 100000 in
theorem ag_b9 : ag_aR ag_no9 [ag_aN 130 (ag_aE ag_MX (58, 255)) 0 0 ag_f0 (ag_aP (3, []) ag_fs ag_fv)] (ag_aE ag_MX (58, 255)) [ag_lt9] (ag_aO (3, []) ag_fs ag_fv ++ ag_aB) 57 = true := by decide +kernel
set_option maxRecDepth 100000 in
theorem ag_c1 : ag_aR ag_no9 [ag_aN 130 (ag_aE ag_MX (97, 122)) 0 0 ag_f1 (ag_aP (2, []) ag_fs ag_fv)] (ag_aE ag_MX (97, 122)) [ag_lt9] (ag_aO (3, []) ag_fs ag_fv ++ ag_aB) 130 = true := by decide +kernel
set_option maxRecDepth 100000 in
theorem ag_c2 : ag_aR ag_no9 [ag_aN 130 (ag_aE ag_MX (97, 122)) 0 0 ag_f1 (ag_aP (2, []) ag_fs ag_fv)] (ag_aE ag_MX (97, 122)) [ag_lt9] (ag_aO (2, []) ag_fs ag_fv ++ ag_aB) 130 = true := by decide +kernel
set_option maxRecDepth 100000 in
theorem ag_d1 : ag_aR (ag_aF (1, []) ag_f0) [] (ag_aE ag_MX (0, 255)) [] (ag_aO (1, []) ag_fs ag_fv) 130 = true := by decide +kernel
set_option maxRecDepth 100000 in
theorem ag_d2 : ag_aR (ag_aF (0, []) ag_f0) [] (ag_aE ag_MX (0, 255)) [ag_ge9] (ag_aO (0, []) ag_fs ag_fv) 130 = true := by decide +kernel
set_option maxRecDepth 100000 in
theorem ag_d3 : ag_aR (ag_aF (2, []) ag_f0) [] (ag_aE ag_MX (0, 255)) [ag_ge9] (ag_aO (2, []) ag_fs ag_fv) 130 = true := by decide +kernel
set_option maxRecDepth 100000 in
theorem ag_d4 : ag_aR (ag_aF (2, []) ag_f0) [] (ag_aE ag_MX (0, 96)) [ag_lt9] (ag_aO (2, []) ag_fs ag_fv ++ ag_aB) 130 = true := by decide +kernel
set_option maxRecDepth 100000 in
theorem ag_d5 : ag_aR (ag_aF (2, []) ag_f0) [] (ag_aE ag_MX (123, 255)) [ag_lt9] (ag_aO (2, []) ag_fs ag_fv ++ ag_aB) 130 = true := by decide +kernel
set_option maxRecDepth 100000 in
theorem ag_d6 : ag_aR (ag_aF (3, []) ag_f1) [] (ag_aE ag_MX (0, 96)) [ag_lt9] (ag_aO (3, []) ag_fs ag_fv ++ ag_aB) 130 = true := by decide +kernel
set_option maxRecDepth 100000 in
theorem ag_d7 : ag_aR (ag_aF (3, []) ag_f1) [] (ag_aE ag_MX (123, 255)) [ag_lt9] (ag_aO (3, []) ag_fs ag_fv ++ ag_aB) 130 = true := by decide +kernel
set_option maxRecDepth 100000 in
theorem ag_0 : btz wC (60, smT) ctb ag_no9 60 181 1000000 2 [(5, ag_aL (0, [(1, 1)]), [(0, 400), (0, 400)], [], [(1, 1, (0, [(0, 1)]))], (0, []), (0, []), (0, []))] (2, [(0, 400), (0, 400)], [], [(1, (1, []), (0, [(0, 1)])), (1, (4, []), (0, [(1, 1)]))], (0, []), (0, [])) 0 [some (.inr (.inl (.ref 1))), none] = true := by decide +kernel
def tkS (T : Nat → Int) (L q : Nat) : Nat := sk isBl T L q
def kK (T : Nat → Int) (L s : Nat) : Nat := if L ≤ s then 0 else if isDg (T s) = true then 1 else if isLt (T s) = true then 2 else 3
def kE (T : Nat → Int) (L s : Nat) : Nat := if kK T L s = 0 then s else if kK T L s = 1 then sk isDg T L s else if kK T L s = 2 then sk isLt T L s else s + 1
def vln (T : Nat → Int) (s : Nat) : Nat → Int
  | 0 => 0
  | n + 1 => 10 * vln T s n + (T (s + n) - 48)
def kV (T : Nat → Int) (L s : Nat) : Int := if kK T L s = 1 then vln T s (min 9 (kE T L s - s)) else 0
def tkK (T : Nat → Int) (L q : Nat) : Nat := kK T L (tkS T L q)
def tkE (T : Nat → Int) (L q : Nat) : Nat := kE T L (tkS T L q)
def tkV (T : Nat → Int) (L q : Nat) : Int := kV T L (tkS T L q)
/-- the token that stands there -/
def TokP (T : Nat → Int) (L q : Nat) (h : zH) : Prop := (h.2.1 1 2).toInt = (tkK T L q : Int) ∧ (h.2.1 1 3).toInt = (tkS T L q : Int) ∧ (h.2.1 1 4).toInt = (tkE T L q : Int) ∧ (h.2.1 1 5).toInt = tkV T L q
def tp2 (h : zH) (i : Nat) : Int := (h.2.1 2 i).toInt
set_option maxRecDepth 100000 in
theorem vln_b {T : Nat → Int} {s : Nat} : ∀ n, (∀ i, i < n → 48 ≤ T (s + i) ∧ T (s + i) ≤ 57) → n ≤ 9 → 0 ≤ vln T s n ∧ vln T s n ≤ 999999999 ∧ (n ≤ 8 → vln T s n ≤ 99999999) := by
  have key : ∀ n, (∀ i, i < n → 48 ≤ T (s + i) ∧ T (s + i) ≤ 57) → 0 ≤ vln T s n ∧ vln T s n + 1 ≤ 10 ^ n := by
    intro n
    induction n with
    | zero => intro _; exact ⟨Int.le_refl _, by show (0 : Int) + 1 ≤ 10 ^ 0; decide⟩
    | succ n ih =>
      intro hh
      obtain ⟨h1, h2⟩ := ih fun i hi => hh i (by omega)
      have h3 := hh n (by omega)
      show 0 ≤ 10 * vln T s n + (T (s + n) - 48) ∧ 10 * vln T s n + (T (s + n) - 48) + 1 ≤ 10 ^ (n + 1)
      rw [Int.pow_succ]
      omega
  intro n hh hn
  obtain ⟨h1, h2⟩ := key n hh
  match n, hn with
  | 0, _ => have h2 : vln T s 0 + 1 ≤ 1 := h2; omega
  | 1, _ => have h2 : vln T s 1 + 1 ≤ 10 := h2; omega
  | 2, _ => have h2 : vln T s 2 + 1 ≤ 100 := h2; omega
  | 3, _ => have h2 : vln T s 3 + 1 ≤ 1000 := h2; omega
  | 4, _ => have h2 : vln T s 4 + 1 ≤ 10000 := h2; omega
  | 5, _ => have h2 : vln T s 5 + 1 ≤ 100000 := h2; omega
  | 6, _ => have h2 : vln T s 6 + 1 ≤ 1000000 := h2; omega
  | 7, _ => have h2 : vln T s 7 + 1 ≤ 10000000 := h2; omega
  | 8, _ => have h2 : vln T s 8 + 1 ≤ 100000000 := h2; omega
  | 9, _ => have h2 : vln T s 9 + 1 ≤ 1000000000 := h2; omega
section AG
variable {E : zE} {B : Nat} {Q : Option zR → Prop} {h0 h : zH} {L at9 s : Nat} {v b : Int}
set_option maxRecDepth 100000 in
theorem ag_seg (hE : E.1 < 2147483648) (hsm : bSO E ctb B (60, smT)) {fin : bS → Option bV → Bool} (hfin : bFin E ctb wC h0 [(L : Int), (at9 : Int), (s : Int), v, b] Q fin) (hr : bRQ ctb wC h0 0 0 h) (hL4 : L ≤ 400) (ha : at9 ≤ 400) (hs : s ≤ 400) {ev eb : Int × Int} (hv : ev.1 ≤ v ∧ v ≤ ev.2) (hb : eb.1 ≤ b ∧ b ≤ eb.2)
    {Ls : List bNd} {cs : bC} {ov : bO} {pc : Nat} (hcs : bcs [(L : Int), (at9 : Int), (s : Int), v, b] cs) (hov : bOV E [(L : Int), (at9 : Int), (s : Int), v, b] ov h) {x : Int32} (hx : x.toInt = (at9 : Int)) (e : ag_aR fin Ls (ag_aE ev eb) cs ov pc = true) {B' : Nat} (hB : B ≤ B')
    (hN : ∀ N, N ∈ Ls → N.2.2.1.length = 5 ∧ N.2.2.2.2.2.1 = ((0 : Int), []) ∧ N.2.2.2.2.2.2.1 = ((0 : Int), []))
    (hL : ∀ N, N ∈ Ls → ∀ ls' h', bLR [(L : Int), (at9 : Int), (s : Int), v, b] N.2.1 ls' → bRQ ctb wC h0 0 0 h' → bpv E [(L : Int), (at9 : Int), (s : Int), v, b] N.2.2.2.2.1 h' → ∀ d f, 60 ≤ d → B' ≤ f → Q (zex E f d 181 N.1 ls' [] h')) : ∀ d f, 60 ≤ d → B' + 1000000 ≤ f → Q (zex E f d 181 pc [some (.ref 1), some (.int x)] [] h) := by
  refine seg (V := [(L : Int), (at9 : Int), (s : Int), v, b]) (ca := 0) (sa := 0) hE hsm hfin hr ?_ rfl hcs hov ?_ e hB hN hL
  · exact benv_c (by omega) (by omega) (benv_c (by omega) (by omega) (benv_c (by omega) (by omega) (benv_c hv.1 hv.2 (benv_c hb.1 hb.2 benv_n))))
  · exact ⟨⟨_, rfl, rfl⟩, ⟨_, rfl, x, rfl, by rw [hx]; exact brel_v rfl⟩, trivial⟩
set_option maxRecDepth 100000 in
theorem ag_aL_s {V : List Int} {f : bI} {ls : zLs} (h : bLR V (ag_aL f) ls) : ∃ y : Int32, ls = [some (.ref 1), some (.int y)] ∧ y.toInt = bvx V f := by
  obtain ⟨l1, e1, k1⟩ := bls_r h
  obtain ⟨y, l2, e2, k2, k3⟩ := bls_i k1
  exact ⟨y, by rw [e1, e2, bls_0 k3], brel_x k2⟩
set_option maxRecDepth 100000 in
theorem ag_one (hE : E.1 < 2147483648) (hsm : bSO E ctb B (60, smT)) (hr : bRQ ctb wC h0 0 0 h) (hL4 : L ≤ 400) (ha : at9 ≤ 400) (hs : s ≤ 400) {ev eb : Int × Int} (hv : ev.1 ≤ v ∧ v ≤ ev.2) (hb : eb.1 ≤ b ∧ b ≤ eb.2)
    {pc pc' : Nat} {e' : bE} {f' : bI} {pov : bPv} {cs : bC} {ov : bO} (hcs : bcs [(L : Int), (at9 : Int), (s : Int), v, b] cs) (hov : bOV E [(L : Int), (at9 : Int), (s : Int), v, b] ov h) {x : Int32} (hx : x.toInt = (at9 : Int)) (e : ag_aR ag_no9 [ag_aN pc' e' 0 0 f' pov] (ag_aE ev eb) cs ov pc = true) (he : e'.length = 5) {B' : Nat} (hB : B ≤ B')
    (hL : ∀ (y : Int32) h', y.toInt = bvx [(L : Int), (at9 : Int), (s : Int), v, b] f' → bRQ ctb wC h0 0 0 h' → bpv E [(L : Int), (at9 : Int), (s : Int), v, b] pov h' → ∀ d f, 60 ≤ d → B' ≤ f → Q (zex E f d 181 pc' [some (.ref 1), some (.int y)] [] h')) : ∀ d f, 60 ≤ d → B' + 1000000 ≤ f → Q (zex E f d 181 pc [some (.ref 1), some (.int x)] [] h) := by
  refine ag_seg hE hsm (fun V S v w h _ _ _ z => nomatch (show false = true from z)) hr hL4 ha hs hv hb hcs hov hx e hB ?_ ?_
  · intro N hN
    cases hN with
    | head => exact ⟨he, rfl, rfl⟩
    | tail _ hN => exact absurd hN List.not_mem_nil
  · intro N hN ls' h' k1 k2 k3 d f hd hf
    cases hN with
    | tail _ hN => exact absurd hN List.not_mem_nil
    | head =>
      obtain ⟨y, y1, y2⟩ := ag_aL_s k1
      rw [y1]
      exact hL y h' y2 k2 k3 d f hd hf
set_option maxRecDepth 100000 in
theorem ag_fin (hE : E.1 < 2147483648) (hsm : bSO E ctb B (60, smT)) (hr : bRQ ctb wC h0 0 0 h) (hL4 : L ≤ 400) (ha : at9 ≤ 400) (hs : s ≤ 400) {ev eb : Int × Int} (hv : ev.1 ≤ v ∧ v ≤ ev.2) (hb : eb.1 ≤ b ∧ b ≤ eb.2)
    {pc : Nat} {k b9 : bI} {cs : bC} {ov : bO} (hcs : bcs [(L : Int), (at9 : Int), (s : Int), v, b] cs) (hov : bOV E [(L : Int), (at9 : Int), (s : Int), v, b] ov h) {x : Int32} (hx : x.toInt = (at9 : Int)) (e : ag_aR (ag_aF k b9) [] (ag_aE ev eb) cs ov pc = true)
    (hQ : ∀ h', bRQ ctb wC h0 0 0 h' → bpv E [(L : Int), (at9 : Int), (s : Int), v, b] [(1, 1, (0, [(0, 1)])), (1, 2, k), (1, 3, ag_fs), (1, 4, b9), (1, 5, ag_fv)] h' → Q (some (.inl none, h'))) : ∀ d f, 60 ≤ d → B + 1000000 ≤ f → Q (zex E f d 181 pc [some (.ref 1), some (.int x)] [] h) := by
  refine ag_seg hE hsm (fin_n (V := [(L : Int), (at9 : Int), (s : Int), v, b]) (ca := 0) (sa := 0) rfl (fun w h' k1 k2 k3 => ?_)) hr hL4 ha hs hv hb hcs hov hx e (Nat.le_refl B) (fun N hN => absurd hN List.not_mem_nil) (fun N hN => absurd hN List.not_mem_nil)
  cases w with
  | none => exact hQ h' k1 k3
  | some w => exact k2.elim
end AG
set_option maxRecDepth 100000 in
theorem bvx_v {V : List Int} {i : Nat} : bvx V (0, [(i, 1)]) = nth V i := by
  show 0 + (1 * nth V i + 0) = nth V i
  omega
set_option maxRecDepth 100000 in
theorem bvx_k {V : List Int} {c : Int} : bvx V (c, []) = c := by
  show c + 0 = c
  omega
set_option maxRecDepth 100000 in
theorem bov_app {E : zE} {V : List Int} {h : zH} {l m : bO} (h1 : bOV E V l h) (h2 : bOV E V m h) : bOV E V (l ++ m) h := fun q hq => by
  rcases List.mem_append.mp hq with z | z
  · exact h1 q z
  · exact h2 q z
set_option maxRecDepth 100000 in
theorem wC_2 {h0 h : zH} {a b : Nat} (hr : bRQ ctb wC h0 a b h) (i : Nat) : h.2.1 2 i = h0.2.1 2 i := hr.2.2.2.1 2 i wC2
set_option maxRecDepth 100000 in
theorem hb_at {h0 h : zH} {a b : Nat} (hb9 : ∀ i, 0 ≤ tp2 h0 i ∧ tp2 h0 i ≤ 255) (hr : bRQ ctb wC h0 a b h) (i : Nat) : 0 ≤ (h.2.1 2 i).toInt ∧ (h.2.1 2 i).toInt ≤ 255 := by
  rw [wC_2 hr]
  exact hb9 i
section AG2
variable {E : zE} {B F : Nat} {h0 h : zH} {L at9 s : Nat} {v b : Int}
set_option maxRecDepth 100000 in
theorem ag_o1 (h1 : (h.2.1 1 1).toInt = (L : Int)) : bOV E [(L : Int), (at9 : Int), (s : Int), v, b] ag_aO1 h :=
  bov_c (k := 1) rfl rfl rfl rfl (by rw [bvx_v]; exact h1) bov_n
set_option maxRecDepth 100000 in
theorem ag_oO {k : Int} (h1 : (h.2.1 1 1).toInt = (L : Int)) (h2 : (h.2.1 1 2).toInt = k) (h3 : (h.2.1 1 3).toInt = (s : Int)) (h5 : (h.2.1 1 5).toInt = v) : bOV E [(L : Int), (at9 : Int), (s : Int), v, b] (ag_aO (k, []) ag_fs ag_fv) h :=
  bov_c (k := 1) rfl rfl rfl rfl (by rw [bvx_v]; exact h1) (bov_c (k := 2) rfl rfl rfl rfl (by rw [bvx_k]; exact h2) (bov_c (k := 3) rfl rfl rfl rfl (by unfold ag_fs; rw [bvx_v]; exact h3) (bov_c (k := 5) rfl rfl rfl rfl (by unfold ag_fv; rw [bvx_v]; exact h5) bov_n)))
set_option maxRecDepth 100000 in
theorem ag_oB (h2 : (h.2.1 2 at9).toInt = b) : bOV E [(L : Int), (at9 : Int), (s : Int), v, b] ag_aB h :=
  bov_c (k := at9) rfl rfl (by rw [bvx_v]; rfl) rfl (by rw [bvx_v]; exact h2) bov_n
set_option maxRecDepth 100000 in
theorem ag_lt (h1 : at9 < L) : bcs [(L : Int), (at9 : Int), (s : Int), v, b] [ag_lt9] := bcs_c rfl (by show 0 ≤ -1 + (1 * (L : Int) + ((-1) * (at9 : Int) + 0)); omega) bcs_n
set_option maxRecDepth 100000 in
theorem ag_ge (h1 : L ≤ at9) : bcs [(L : Int), (at9 : Int), (s : Int), v, b] [ag_ge9] := bcs_c rfl (by show 0 ≤ 0 + ((-1) * (L : Int) + (1 * (at9 : Int) + 0)); omega) bcs_n
/-- what advance ends in -/
def agQ (h0 : zH) (L : Nat) (k s e : Nat) (v : Int) (o : Option zR) : Prop := ∃ h', o = some (.inl none, h') ∧ bRQ ctb wC h0 0 0 h' ∧ (h'.2.1 1 1).toInt = (L : Int) ∧ (h'.2.1 1 2).toInt = (k : Int) ∧ (h'.2.1 1 3).toInt = (s : Int) ∧ (h'.2.1 1 4).toInt = (e : Int) ∧ (h'.2.1 1 5).toInt = v
set_option maxRecDepth 100000 in
theorem agQ_i {k b9 : bI} {kn en : Nat} (hk : bvx [(L : Int), (at9 : Int), (s : Int), v, b] k = (kn : Int)) (he : bvx [(L : Int), (at9 : Int), (s : Int), v, b] b9 = (en : Int)) : ∀ h', bRQ ctb wC h0 0 0 h' → bpv E [(L : Int), (at9 : Int), (s : Int), v, b] [(1, 1, (0, [(0, 1)])), (1, 2, k), (1, 3, ag_fs), (1, 4, b9), (1, 5, ag_fv)] h' → agQ h0 L kn s en v (some (.inl none, h')) := by
  intro h' hr hp
  refine ⟨h', rfl, hr, ?_, ?_, ?_, ?_, ?_⟩
  · have := bpv_x hp (c := 1) (k := 1) rfl (List.Mem.head _)
    rw [bvx_v] at this
    exact this
  · rw [← hk]
    exact bpv_x hp (c := 1) (k := 2) rfl (List.Mem.tail _ (List.Mem.head _))
  · have := bpv_x hp (c := 1) (k := 3) rfl (List.Mem.tail _ (List.Mem.tail _ (List.Mem.head _)))
    unfold ag_fs at this
    rw [bvx_v] at this
    exact this
  · rw [← he]
    exact bpv_x hp (c := 1) (k := 4) rfl (List.Mem.tail _ (List.Mem.tail _ (List.Mem.tail _ (List.Mem.head _))))
  · have := bpv_x hp (c := 1) (k := 5) rfl (List.Mem.tail _ (List.Mem.tail _ (List.Mem.tail _ (List.Mem.tail _ (List.Mem.head _)))))
    unfold ag_fv at this
    rw [bvx_v] at this
    exact this
set_option maxRecDepth 100000 in
theorem ag_f0v : bvx [(L : Int), (at9 : Int), (s : Int), v, b] ag_f0 = (at9 : Int) := by unfold ag_f0; rw [bvx_v]; rfl
set_option maxRecDepth 100000 in
theorem ag_f1v : bvx [(L : Int), (at9 : Int), (s : Int), v, b] ag_f1 = ((at9 + 1 : Nat) : Int) := by
  show 1 + (1 * (at9 : Int) + 0) = ((at9 + 1 : Nat) : Int)
  omega
set_option maxRecDepth 100000 in
theorem ag_pv {k vv : bI} {h' : zH} (hp : bpv E [(L : Int), (at9 : Int), (s : Int), v, b] (ag_aP k ag_fs vv) h') : (h'.2.1 1 1).toInt = (L : Int) ∧ (h'.2.1 1 2).toInt = bvx [(L : Int), (at9 : Int), (s : Int), v, b] k ∧ (h'.2.1 1 3).toInt = (s : Int) ∧ (h'.2.1 1 5).toInt = bvx [(L : Int), (at9 : Int), (s : Int), v, b] vv := by
  have p1 := bpv_x hp (c := 1) (k := 1) rfl (List.Mem.head _)
  have p2 := bpv_x hp (c := 1) (k := 2) rfl (List.Mem.tail _ (List.Mem.head _))
  have p3 := bpv_x hp (c := 1) (k := 3) rfl (List.Mem.tail _ (List.Mem.tail _ (List.Mem.head _)))
  have p5 := bpv_x hp (c := 1) (k := 5) rfl (List.Mem.tail _ (List.Mem.tail _ (List.Mem.tail _ (List.Mem.head _))))
  rw [bvx_v] at p1
  unfold ag_fs at p3
  rw [bvx_v] at p3
  exact ⟨p1, p2, p3, p5⟩
set_option maxRecDepth 100000 in
theorem isLt_s {x : Int} : isLt x = true ↔ 97 ≤ x ∧ x ≤ 122 := by
  unfold isLt
  rw [Bool.and_eq_true, decide_eq_true_iff, decide_eq_true_iff]
set_option maxRecDepth 100000 in
theorem isDg_s {x : Int} : isDg x = true ↔ 48 ≤ x ∧ x ≤ 57 := by
  unfold isDg
  rw [Bool.and_eq_true, decide_eq_true_iff, decide_eq_true_iff]
set_option maxRecDepth 100000 in
theorem isBl_s {x : Int} : isBl x = true ↔ x = 32 := by
  unfold isBl
  rw [decide_eq_true_iff]
set_option maxRecDepth 100000 in
theorem bFls {x : Bool} (h : ¬ x = true) : x = false := by
  cases x
  · rfl
  · exact absurd rfl h
set_option maxRecDepth 100000 in
theorem ag_C (hE : E.1 < 2147483648) (hsm : bSO E ctb B (60, smT)) (hb9 : ∀ i, 0 ≤ tp2 h0 i ∧ tp2 h0 i ≤ 255) (hF : 1000000 ≤ F) (hL4 : L ≤ 400) (hs : s ≤ 400) (hv : 0 ≤ v ∧ v ≤ 999999999) : ∀ (m at9 : Nat) (x : Int32) (h : zH), L ≤ at9 + m → at9 ≤ L → x.toInt = (at9 : Int) → bRQ ctb wC h0 0 0 h → (h.2.1 1 1).toInt = (L : Int) → (h.2.1 1 2).toInt = 2 → (h.2.1 1 3).toInt = (s : Int) → (h.2.1 1 5).toInt = v →
    ∀ d f, 60 ≤ d → B + F * (m + 1) ≤ f → agQ h0 L 2 s (sk isLt (tp2 h0) L at9) v (zex E f d 181 130 [some (.ref 1), some (.int x)] [] h) := by
  intro m
  induction m with
  | zero =>
    intro at9 x h hm ha hx hr p1 p2 p3 p5 d f hd hf
    have hmul : F * (0 + 1) = F := Nat.mul_one F
    have hge : L ≤ at9 := by omega
    rw [sk_e (fun z => by omega)]
    exact ag_fin hE hsm hr hL4 (by omega) hs (b := 0) (ev := ag_MX) (eb := (0, 255)) hv ⟨by decide, by decide⟩ (ag_ge hge) (ag_oO p1 p2 p3 p5) hx ag_d3 (agQ_i bvx_k ag_f0v) d f hd (by omega)
  | succ m ih =>
    intro at9 x h hm ha hx hr p1 p2 p3 p5 d f hd hf
    have hmul : F * (m + 1 + 1) = F * (m + 1) + F := Nat.mul_succ F (m + 1)
    have hf1 : B + F * (m + 1) + 1000000 ≤ f := by omega
    have hf2 : B + 1000000 ≤ f := by omega
    by_cases hlt : at9 < L
    · have hT : tp2 h0 at9 = (h.2.1 2 at9).toInt := by unfold tp2; rw [wC_2 hr]
      have hb := hb9 at9
      rw [hT] at hb
      have hb1 : 0 ≤ (h.2.1 2 at9).toInt := hb.1
      have hb2 : (h.2.1 2 at9).toInt ≤ 255 := hb.2
      by_cases hl : isLt (tp2 h0 at9) = true
      · have hl2 := isLt_s.mp hl
        rw [sk_s hlt hl]
        refine ag_one hE hsm hr hL4 (by omega) hs (b := (h.2.1 2 at9).toInt) (ev := ag_MX) (eb := (97, 122)) hv (by rw [← hT]; exact hl2) (ag_lt hlt) (bov_app (ag_oO p1 p2 p3 p5) (ag_oB rfl)) hx ag_c2 rfl (B' := B + F * (m + 1)) (Nat.le_add_right _ _) ?_ d f hd hf1
        intro y h' hy k2 k3 d f hd hf
        rw [ag_f1v] at hy
        obtain ⟨q1, q2, q3, q5⟩ := ag_pv k3
        rw [bvx_k] at q2
        unfold ag_fv at q5
        rw [bvx_v] at q5
        exact ih (at9 + 1) y h' (by omega) (by omega) hy k2 q1 q2 q3 q5 d f hd hf
      · rw [sk_e (fun _ => bFls hl)]
        have hl2 : ¬ (97 ≤ (tp2 h0 at9) ∧ tp2 h0 at9 ≤ 122) := fun z => hl (isLt_s.mpr z)
        rw [hT] at hl2
        by_cases hlo : (h.2.1 2 at9).toInt ≤ 96
        · exact ag_fin hE hsm hr hL4 (by omega) hs (b := (h.2.1 2 at9).toInt) (ev := ag_MX) (eb := (0, 96)) hv ⟨hb1, hlo⟩ (ag_lt hlt) (bov_app (ag_oO p1 p2 p3 p5) (ag_oB rfl)) hx ag_d4 (agQ_i bvx_k ag_f0v) d f hd hf2
        · exact ag_fin hE hsm hr hL4 (by omega) hs (b := (h.2.1 2 at9).toInt) (ev := ag_MX) (eb := (123, 255)) hv ⟨by show (123 : Int) ≤ _; omega, hb2⟩ (ag_lt hlt) (bov_app (ag_oO p1 p2 p3 p5) (ag_oB rfl)) hx ag_d5 (agQ_i bvx_k ag_f0v) d f hd hf2
    · rw [sk_e (fun z => absurd z hlt)]
      exact ag_fin hE hsm hr hL4 (by omega) hs (b := 0) (ev := ag_MX) (eb := (0, 255)) hv ⟨by decide, by decide⟩ (ag_ge (by omega)) (ag_oO p1 p2 p3 p5) hx ag_d3 (agQ_i bvx_k ag_f0v) d f hd hf2
set_option maxRecDepth 100000 in
theorem ag_B (hE : E.1 < 2147483648) (hsm : bSO E ctb B (60, smT)) (hb9 : ∀ i, 0 ≤ tp2 h0 i ∧ tp2 h0 i ≤ 255) (hF : 1000000 ≤ F) (hL4 : L ≤ 400) : ∀ (m at9 : Nat) (x : Int32) (h : zH), L ≤ at9 + m → at9 ≤ L → s < at9 → (∀ i, i < at9 - s → 48 ≤ tp2 h0 (s + i) ∧ tp2 h0 (s + i) ≤ 57) → x.toInt = (at9 : Int) → bRQ ctb wC h0 0 0 h → (h.2.1 1 1).toInt = (L : Int) → (h.2.1 1 2).toInt = 1 → (h.2.1 1 3).toInt = (s : Int) → (h.2.1 1 5).toInt = vln (tp2 h0) s (min 9 (at9 - s)) →
    ∀ d f, 60 ≤ d → B + F * (m + 2) ≤ f → agQ h0 L 1 s (sk isDg (tp2 h0) L at9) (vln (tp2 h0) s (min 9 (sk isDg (tp2 h0) L at9 - s))) (zex E f d 181 57 [some (.ref 1), some (.int x)] [] h) := by
  intro m
  induction m with
  | zero =>
    intro at9 x h hm ha hsa hd0 hx hr p1 p2 p3 p5 d f hd hf
    have hmul : F * (0 + 2) = F + F := by rw [Nat.zero_add, Nat.mul_comm, Nat.two_mul]
    have hge : L ≤ at9 := by omega
    rw [sk_e (fun z => by omega)]
    have hvb := vln_b (min 9 (at9 - s)) (fun i hi => hd0 i (by omega)) (by omega)
    refine ag_one hE hsm hr hL4 (by omega) (by omega) (s := s) (v := vln (tp2 h0) s (min 9 (at9 - s))) (b := 0) (ev := ag_MX) (eb := (0, 255)) ⟨hvb.1, hvb.2.1⟩ ⟨by decide, by decide⟩ (ag_ge hge) (ag_oO p1 p2 p3 p5) hx ag_b5 rfl (B' := B + F) (Nat.le_add_right _ _) ?_ d f hd (by omega)
    intro y h' hy k2 k3 d f hd hf
    rw [ag_f0v] at hy
    obtain ⟨q1, q2, q3, q5⟩ := ag_pv k3
    rw [bvx_k] at q2
    unfold ag_fv at q5
    rw [bvx_v] at q5
    exact ag_fin hE hsm k2 hL4 (by omega) (by omega) (b := 0) (ev := ag_MX) (eb := (0, 255)) ⟨hvb.1, hvb.2.1⟩ ⟨by decide, by decide⟩ bcs_n (ag_oO q1 q2 q3 q5) hy ag_d1 (agQ_i bvx_k ag_f0v) d f hd (by omega)
  | succ m ih =>
    intro at9 x h hm ha hsa hd0 hx hr p1 p2 p3 p5 d f hd hf
    have hmul : F * (m + 1 + 2) = F * (m + 2) + F := Nat.mul_succ F (m + 2)
    have hmul2 : F * (m + 2) = F * (m + 1) + F := Nat.mul_succ F (m + 1)
    have hvb := vln_b (min 9 (at9 - s)) (fun i hi => hd0 i (by omega)) (by omega)
    have hf1 : B + F * (m + 2) + 1000000 ≤ f := by omega
    have hf2 : B + F + 1000000 ≤ f := by omega
    have out : ∀ (y : Int32) h', y.toInt = bvx [(L : Int), (at9 : Int), (s : Int), vln (tp2 h0) s (min 9 (at9 - s)), (h.2.1 2 at9).toInt] ag_f0 → bRQ ctb wC h0 0 0 h' → bpv E [(L : Int), (at9 : Int), (s : Int), vln (tp2 h0) s (min 9 (at9 - s)), (h.2.1 2 at9).toInt] (ag_aP (1, []) ag_fs ag_fv) h' → ∀ d f, 60 ≤ d → B + F ≤ f → agQ h0 L 1 s at9 (vln (tp2 h0) s (min 9 (at9 - s))) (zex E f d 181 130 [some (.ref 1), some (.int y)] [] h') := by
      intro y h' hy k2 k3 d f hd hf
      rw [ag_f0v] at hy
      obtain ⟨q1, q2, q3, q5⟩ := ag_pv k3
      rw [bvx_k] at q2
      unfold ag_fv at q5
      rw [bvx_v] at q5
      exact ag_fin hE hsm k2 hL4 (by omega) (by omega) (b := 0) (ev := ag_MX) (eb := (0, 255)) ⟨hvb.1, hvb.2.1⟩ ⟨by decide, by decide⟩ bcs_n (ag_oO q1 q2 q3 q5) hy ag_d1 (agQ_i bvx_k ag_f0v) d f hd (by omega)
    by_cases hlt : at9 < L
    · have hT : tp2 h0 at9 = (h.2.1 2 at9).toInt := by unfold tp2; rw [wC_2 hr]
      have hb := hb9 at9
      rw [hT] at hb
      have hb1 : 0 ≤ (h.2.1 2 at9).toInt := hb.1
      have hb2 : (h.2.1 2 at9).toInt ≤ 255 := hb.2
      by_cases hl : isDg (tp2 h0 at9) = true
      · have hl2 := isDg_s.mp hl
        have hd1 : ∀ i, i < at9 + 1 - s → 48 ≤ tp2 h0 (s + i) ∧ tp2 h0 (s + i) ≤ 57 := by
          intro i hi
          by_cases hi2 : i < at9 - s
          · exact hd0 i hi2
          · rw [show s + i = at9 by omega]; exact hl2
        rw [sk_s hlt hl]
        by_cases h8 : at9 - s ≤ 8
        · have hm1 : min 9 (at9 - s) = at9 - s := by omega
          have hm2 : min 9 (at9 + 1 - s) = (at9 - s) + 1 := by omega
          refine ag_one hE hsm hr hL4 (by omega) (by omega) (s := s) (v := vln (tp2 h0) s (min 9 (at9 - s))) (b := (h.2.1 2 at9).toInt) (ev := (0, 99999999)) (eb := (48, 57)) ⟨hvb.1, hvb.2.2 (by omega)⟩ (by rw [← hT]; exact hl2) (bcs_c rfl (by show 0 ≤ -1 + (1 * (L : Int) + ((-1) * (at9 : Int) + 0)); omega) (bcs_c rfl (by show 0 ≤ 8 + ((-1) * (at9 : Int) + (1 * (s : Int) + 0)); omega) bcs_n)) (bov_app (ag_oO p1 p2 p3 p5) (ag_oB rfl)) hx ag_b2 rfl (B' := B + F * (m + 2)) (Nat.le_add_right _ _) ?_ d f hd hf1
          intro y h' hy k2 k3 d f hd hf
          rw [ag_f1v] at hy
          obtain ⟨q1, q2, q3, q5⟩ := ag_pv k3
          rw [bvx_k] at q2
          refine ih (at9 + 1) y h' (by omega) (by omega) (by omega) hd1 hy k2 q1 q2 q3 ?_ d f hd hf
          have q5 : (h'.2.1 1 5).toInt = -48 + (10 * vln (tp2 h0) s (min 9 (at9 - s)) + (1 * (h.2.1 2 at9).toInt + 0)) := q5
          rw [q5, hm2]
          show _ = 10 * vln (tp2 h0) s (at9 - s) + (tp2 h0 (s + (at9 - s)) - 48)
          rw [show s + (at9 - s) = at9 by omega, hT, hm1]
          omega
        · have hm1 : min 9 (at9 - s) = 9 := by omega
          have hm2 : min 9 (at9 + 1 - s) = 9 := by omega
          refine ag_one hE hsm hr hL4 (by omega) (by omega) (s := s) (v := vln (tp2 h0) s (min 9 (at9 - s))) (b := (h.2.1 2 at9).toInt) (ev := ag_MX) (eb := (48, 57)) ⟨hvb.1, hvb.2.1⟩ (by rw [← hT]; exact hl2) (bcs_c rfl (by show 0 ≤ -1 + (1 * (L : Int) + ((-1) * (at9 : Int) + 0)); omega) (bcs_c rfl (by show 0 ≤ -9 + (1 * (at9 : Int) + ((-1) * (s : Int) + 0)); omega) bcs_n)) (bov_app (ag_oO p1 p2 p3 p5) (ag_oB rfl)) hx ag_b3 rfl (B' := B + F * (m + 2)) (Nat.le_add_right _ _) ?_ d f hd hf1
          intro y h' hy k2 k3 d f hd hf
          rw [ag_f1v] at hy
          obtain ⟨q1, q2, q3, q5⟩ := ag_pv k3
          rw [bvx_k] at q2
          unfold ag_fv at q5
          rw [bvx_v] at q5
          refine ih (at9 + 1) y h' (by omega) (by omega) (by omega) hd1 hy k2 q1 q2 q3 ?_ d f hd hf
          rw [hm2, ← hm1]
          exact q5
      · rw [sk_e (fun _ => bFls hl)]
        have hl2 : ¬ (48 ≤ (tp2 h0 at9) ∧ tp2 h0 at9 ≤ 57) := fun z => hl (isDg_s.mpr z)
        rw [hT] at hl2
        by_cases hlo : (h.2.1 2 at9).toInt ≤ 47
        · exact ag_one hE hsm hr hL4 (by omega) (by omega) (s := s) (v := vln (tp2 h0) s (min 9 (at9 - s))) (b := (h.2.1 2 at9).toInt) (ev := ag_MX) (eb := (0, 47)) ⟨hvb.1, hvb.2.1⟩ ⟨hb1, hlo⟩ (ag_lt hlt) (bov_app (ag_oO p1 p2 p3 p5) (ag_oB rfl)) hx ag_b6 rfl (B' := B + F) (Nat.le_add_right _ _) out d f hd hf2
        · exact ag_one hE hsm hr hL4 (by omega) (by omega) (s := s) (v := vln (tp2 h0) s (min 9 (at9 - s))) (b := (h.2.1 2 at9).toInt) (ev := ag_MX) (eb := (58, 255)) ⟨hvb.1, hvb.2.1⟩ ⟨by show (58 : Int) ≤ _; omega, hb2⟩ (ag_lt hlt) (bov_app (ag_oO p1 p2 p3 p5) (ag_oB rfl)) hx ag_b7 rfl (B' := B + F) (Nat.le_add_right _ _) out d f hd hf2
    · rw [sk_e (fun z => absurd z hlt)]
      exact ag_one hE hsm hr hL4 (by omega) (by omega) (s := s) (v := vln (tp2 h0) s (min 9 (at9 - s))) (b := (h.2.1 2 at9).toInt) (ev := ag_MX) (eb := (0, 255)) ⟨hvb.1, hvb.2.1⟩ (hb_at hb9 hr at9) (ag_ge (by omega)) (ag_oO p1 p2 p3 p5) hx ag_b5 rfl (B' := B + F) (Nat.le_add_right _ _) out d f hd hf2
set_option maxRecDepth 100000 in
theorem kK_b (T : Nat → Int) (L s : Nat) : kK T L s ≤ 3 := by
  unfold kK
  repeat' split
  all_goals omega
set_option maxRecDepth 100000 in
theorem ag_S (hE : E.1 < 2147483648) (hsm : bSO E ctb B (60, smT)) (hb9 : ∀ i, 0 ≤ tp2 h0 i ∧ tp2 h0 i ≤ 255) (hF : 1000000 ≤ F) (hL4 : L ≤ 400) (hsL : s ≤ L) {x : Int32} {h : zH} {k0 : Nat} (hx : x.toInt = (s : Int)) (hr : bRQ ctb wC h0 0 0 h) (p1 : (h.2.1 1 1).toInt = (L : Int)) (p2 : (h.2.1 1 2).toInt = (k0 : Int)) (hk0 : k0 = if L ≤ s then 0 else 3) (p3 : (h.2.1 1 3).toInt = (s : Int)) (p5 : (h.2.1 1 5).toInt = 0) :
    ∀ d f, 60 ≤ d → B + F * (L + 4) ≤ f → agQ h0 L (kK (tp2 h0) L s) s (kE (tp2 h0) L s) (kV (tp2 h0) L s) (zex E f d 181 57 [some (.ref 1), some (.int x)] [] h) := by
  intro d f hd hf
  have hmul : F * (L + 4) = F * (L + 2) + F + F := by rw [show L + 4 = L + 2 + 1 + 1 from rfl, Nat.mul_succ, Nat.mul_succ]
  have hmul2 : F * (L + 2) = F * (L + 1) + F := Nat.mul_succ F (L + 1)
  have hf1 : B + F * (L + 2) + 1000000 ≤ f := by omega
  have hf2 : B + F * (L + 1) + F + 1000000 ≤ f := by omega
  have hv0 : (0 : Int) ≤ 0 ∧ (0 : Int) ≤ 999999999 := ⟨by decide, by decide⟩
  by_cases hge : L ≤ s
  · rw [if_pos hge] at hk0
    subst hk0
    have e1 : kK (tp2 h0) L s = 0 := by unfold kK; rw [if_pos hge]
    have e2 : kE (tp2 h0) L s = s := by unfold kE; rw [if_pos e1]
    have e3 : kV (tp2 h0) L s = 0 := by unfold kV; rw [if_neg (by omega)]
    rw [e1, e2, e3]
    refine ag_one hE hsm hr hL4 (by omega) (by omega) (s := s) (v := 0) (b := 0) (ev := ag_MX) (eb := (0, 255)) hv0 ⟨by decide, by decide⟩ (ag_ge hge) (ag_oO p1 p2 p3 p5) hx ag_b4 rfl (B' := B + F * (L + 2)) (Nat.le_add_right _ _) ?_ d f hd hf1
    intro y h' hy k2 k3 d f hd hf
    rw [ag_f0v] at hy
    obtain ⟨q1, q2, q3, q5⟩ := ag_pv k3
    rw [bvx_k] at q2
    unfold ag_fv at q5
    rw [bvx_v] at q5
    exact ag_fin hE hsm k2 hL4 (by omega) (by omega) (b := 0) (ev := ag_MX) (eb := (0, 255)) hv0 ⟨by decide, by decide⟩ (ag_ge hge) (ag_oO q1 q2 q3 q5) hy ag_d2 (agQ_i bvx_k ag_f0v) d f hd (by omega)
  · rw [if_neg hge] at hk0
    subst hk0
    have hlt : s < L := by omega
    have hT : tp2 h0 s = (h.2.1 2 s).toInt := by unfold tp2; rw [wC_2 hr]
    have hb := hb9 s
    rw [hT] at hb
    have hb1 : 0 ≤ (h.2.1 2 s).toInt := hb.1
    have hb2 : (h.2.1 2 s).toInt ≤ 255 := hb.2
    by_cases hdg : isDg (tp2 h0 s) = true
    · have hl2 := isDg_s.mp hdg
      have e1 : kK (tp2 h0) L s = 1 := by unfold kK; rw [if_neg hge, if_pos hdg]
      have e2 : kE (tp2 h0) L s = sk isDg (tp2 h0) L s := by unfold kE; rw [if_neg (by omega), if_pos e1]
      have e3 : kV (tp2 h0) L s = vln (tp2 h0) s (min 9 (sk isDg (tp2 h0) L s - s)) := by unfold kV; rw [if_pos e1, e2]
      rw [e1, e2, e3, sk_s hlt hdg]
      refine ag_one hE hsm hr hL4 (by omega) (by omega) (s := s) (v := 0) (b := (h.2.1 2 s).toInt) (ev := (0, 99999999)) (eb := (48, 57)) ⟨by decide, by decide⟩ (by rw [← hT]; exact hl2) (bcs_c rfl (by show 0 ≤ -1 + (1 * (L : Int) + ((-1) * (s : Int) + 0)); omega) (bcs_c rfl (by show 0 ≤ 8 + ((-1) * (s : Int) + (1 * (s : Int) + 0)); omega) bcs_n)) (bov_app (ag_oO p1 p2 p3 p5) (ag_oB rfl)) hx ag_b1 rfl (B' := B + F * (L + 2)) (Nat.le_add_right _ _) ?_ d f hd hf1
      intro y h' hy k2 k3 d f hd hf
      rw [ag_f1v] at hy
      obtain ⟨q1, q2, q3, q5⟩ := ag_pv k3
      rw [bvx_k] at q2
      refine ag_B (s := s) hE hsm hb9 hF hL4 L (s + 1) y h' (by omega) (by omega) (by omega) (fun i hi => ?_) hy k2 q1 q2 q3 ?_ d f hd hf
      · rw [show s + i = s by omega]; exact hl2
      · have q5 : (h'.2.1 1 5).toInt = -48 + (10 * 0 + (1 * (h.2.1 2 s).toInt + 0)) := q5
        rw [q5, show min 9 (s + 1 - s) = 1 by omega]
        show _ = 10 * 0 + (tp2 h0 (s + 0) - 48)
        rw [Nat.add_zero, hT]
        omega
    · have hl2 : ¬ (48 ≤ (tp2 h0 s) ∧ tp2 h0 s ≤ 57) := fun z => hdg (isDg_s.mpr z)
      rw [hT] at hl2
      have out : ∀ (y : Int32) h', y.toInt = bvx [(L : Int), (s : Int), (s : Int), 0, (h.2.1 2 s).toInt] ag_f0 → bRQ ctb wC h0 0 0 h' → bpv E [(L : Int), (s : Int), (s : Int), 0, (h.2.1 2 s).toInt] (ag_aP (3, []) ag_fs ag_fv) h' → ∀ d f, 60 ≤ d → B + F * (L + 1) + F ≤ f → agQ h0 L (kK (tp2 h0) L s) s (kE (tp2 h0) L s) (kV (tp2 h0) L s) (zex E f d 181 130 [some (.ref 1), some (.int y)] [] h') := by
        intro y h' hy k2 k3 d f hd hf
        rw [ag_f0v] at hy
        obtain ⟨q1, q2, q3, q5⟩ := ag_pv k3
        rw [bvx_k] at q2
        unfold ag_fv at q5
        rw [bvx_v] at q5
        have hbb : (h'.2.1 2 s).toInt = (h.2.1 2 s).toInt := by rw [wC_2 k2, wC_2 hr]
        have hf3 : B + F * (L + 1) + 1000000 ≤ f := by omega
        have hf4 : B + 1000000 ≤ f := by omega
        by_cases hl : isLt (tp2 h0 s) = true
        · have e1 : kK (tp2 h0) L s = 2 := by unfold kK; rw [if_neg hge, if_neg hdg, if_pos hl]
          have e2 : kE (tp2 h0) L s = sk isLt (tp2 h0) L s := by unfold kE; rw [if_neg (by omega), if_neg (by omega), if_pos e1]
          have e3 : kV (tp2 h0) L s = 0 := by unfold kV; rw [if_neg (by omega)]
          have hl3 := isLt_s.mp hl
          rw [e1, e2, e3, sk_s hlt hl]
          refine ag_one hE hsm k2 hL4 (by omega) (by omega) (s := s) (v := 0) (b := (h'.2.1 2 s).toInt) (ev := ag_MX) (eb := (97, 122)) hv0 (by rw [hbb, ← hT]; exact hl3) (ag_lt hlt) (bov_app (ag_oO q1 q2 q3 q5) (ag_oB rfl)) hy ag_c1 rfl (B' := B + F * (L + 1)) (Nat.le_add_right _ _) ?_ d f hd hf3
          intro z h9 hz k4 k5 d f hd hf
          rw [ag_f1v] at hz
          obtain ⟨r1, r2, r3, r5⟩ := ag_pv k5
          rw [bvx_k] at r2
          unfold ag_fv at r5
          rw [bvx_v] at r5
          exact ag_C hE hsm hb9 hF hL4 (by omega) hv0 L (s + 1) z h9 (by omega) (by omega) hz k4 r1 r2 r3 r5 d f hd hf
        · have e1 : kK (tp2 h0) L s = 3 := by unfold kK; rw [if_neg hge, if_neg hdg, if_neg hl]
          have e2 : kE (tp2 h0) L s = s + 1 := by unfold kE; rw [if_neg (by omega), if_neg (by omega), if_neg (by omega)]
          have e3 : kV (tp2 h0) L s = 0 := by unfold kV; rw [if_neg (by omega)]
          have hl3 : ¬ (97 ≤ (tp2 h0 s) ∧ tp2 h0 s ≤ 122) := fun z => hl (isLt_s.mpr z)
          rw [hT, ← hbb] at hl3
          rw [e1, e2, e3]
          have hc1 : 0 ≤ (h'.2.1 2 s).toInt := by omega
          have hc2 : (h'.2.1 2 s).toInt ≤ 255 := by omega
          by_cases hlo : (h'.2.1 2 s).toInt ≤ 96
          · exact ag_fin hE hsm k2 hL4 (by omega) (by omega) (b := (h'.2.1 2 s).toInt) (ev := ag_MX) (eb := (0, 96)) hv0 ⟨hc1, hlo⟩ (ag_lt hlt) (bov_app (ag_oO q1 q2 q3 q5) (ag_oB rfl)) hy ag_d6 (agQ_i bvx_k ag_f1v) d f hd hf4
          · exact ag_fin hE hsm k2 hL4 (by omega) (by omega) (b := (h'.2.1 2 s).toInt) (ev := ag_MX) (eb := (123, 255)) hv0 ⟨by show (123 : Int) ≤ _; omega, hc2⟩ (ag_lt hlt) (bov_app (ag_oO q1 q2 q3 q5) (ag_oB rfl)) hy ag_d7 (agQ_i bvx_k ag_f1v) d f hd hf4
      by_cases hlo : (h.2.1 2 s).toInt ≤ 47
      · exact ag_one hE hsm hr hL4 (by omega) (by omega) (s := s) (v := 0) (b := (h.2.1 2 s).toInt) (ev := ag_MX) (eb := (0, 47)) hv0 ⟨hb1, hlo⟩ (ag_lt hlt) (bov_app (ag_oO p1 p2 p3 p5) (ag_oB rfl)) hx ag_b8 rfl (B' := B + F * (L + 1) + F) (by omega) out d f hd hf2
      · exact ag_one hE hsm hr hL4 (by omega) (by omega) (s := s) (v := 0) (b := (h.2.1 2 s).toInt) (ev := ag_MX) (eb := (58, 255)) hv0 ⟨by show (58 : Int) ≤ _; omega, hb2⟩ (ag_lt hlt) (bov_app (ag_oO p1 p2 p3 p5) (ag_oB rfl)) hx ag_b9 rfl (B' := B + F * (L + 1) + F) (by omega) out d f hd hf2
set_option maxRecDepth 100000 in
theorem ag_A (hE : E.1 < 2147483648) (hsm : bSO E ctb B (60, smT)) (hb9 : ∀ i, 0 ≤ tp2 h0 i ∧ tp2 h0 i ≤ 255) (hF : 1000000 ≤ F) (hL4 : L ≤ 400) : ∀ (m q : Nat) (x : Int32) (h : zH), L ≤ q + m → q ≤ L → x.toInt = (q : Int) → bRQ ctb wC h0 0 0 h → (h.2.1 1 1).toInt = (L : Int) →
    ∀ d f, 60 ≤ d → B + F * (L + 5 + m) ≤ f → agQ h0 L (tkK (tp2 h0) L q) (tkS (tp2 h0) L q) (tkE (tp2 h0) L q) (tkV (tp2 h0) L q) (zex E f d 181 5 [some (.ref 1), some (.int x)] [] h) := by
  intro m
  have fin : ∀ (q : Nat) (x : Int32) (h : zH), q ≤ L → (q < L → isBl (tp2 h0 q) = false) → x.toInt = (q : Int) → bRQ ctb wC h0 0 0 h → (h.2.1 1 1).toInt = (L : Int) → ∀ d f, 60 ≤ d → B + F * (L + 5) ≤ f → agQ h0 L (tkK (tp2 h0) L q) (tkS (tp2 h0) L q) (tkE (tp2 h0) L q) (tkV (tp2 h0) L q) (zex E f d 181 5 [some (.ref 1), some (.int x)] [] h) := by
    intro q x h hq hb0 hx hr p1 d f hd hf
    have hmul : F * (L + 5) = F * (L + 4) + F := Nat.mul_succ F (L + 4)
    have hf1 : B + F * (L + 4) + 1000000 ≤ f := by omega
    have e0 : tkS (tp2 h0) L q = q := by unfold tkS; exact sk_e hb0
    unfold tkK tkE tkV
    rw [e0]
    have hv0 : (0 : Int) ≤ 0 ∧ (0 : Int) ≤ 999999999 := ⟨by decide, by decide⟩
    have out : ∀ (k0 : Nat) (b : Int), (k0 = if L ≤ q then 0 else 3) → ∀ (y : Int32) h', y.toInt = bvx [(L : Int), (q : Int), (0 : Nat), 0, b] ag_f0 → bRQ ctb wC h0 0 0 h' → bpv E [(L : Int), (q : Int), (0 : Nat), 0, b] (ag_aP ((k0 : Int), []) ag_f0 (0, [])) h' → ∀ d f, 60 ≤ d → B + F * (L + 4) ≤ f → agQ h0 L (kK (tp2 h0) L q) q (kE (tp2 h0) L q) (kV (tp2 h0) L q) (zex E f d 181 57 [some (.ref 1), some (.int y)] [] h') := by
      intro k0 b hk0 y h' hy k2 hp d f hd hf
      rw [ag_f0v] at hy
      have r1 := bpv_x hp (c := 1) (k := 1) rfl (List.Mem.head _)
      have r2 := bpv_x hp (c := 1) (k := 2) rfl (List.Mem.tail _ (List.Mem.head _))
      have r3 := bpv_x hp (c := 1) (k := 3) rfl (List.Mem.tail _ (List.Mem.tail _ (List.Mem.head _)))
      have r5 := bpv_x hp (c := 1) (k := 5) rfl (List.Mem.tail _ (List.Mem.tail _ (List.Mem.tail _ (List.Mem.head _))))
      rw [bvx_v] at r1
      rw [bvx_k] at r2 r5
      rw [ag_f0v] at r3
      exact ag_S hE hsm hb9 hF hL4 hq hy k2 r1 r2 hk0 r3 r5 d f hd hf
    by_cases hge : L ≤ q
    · exact ag_one hE hsm hr hL4 (by omega) (Nat.zero_le _) (s := 0) (v := 0) (b := 0) (ev := ag_MX) (eb := (0, 255)) hv0 ⟨by decide, by decide⟩ (ag_ge hge) (ag_o1 p1) hx ag_a2 rfl (B' := B + F * (L + 4)) (Nat.le_add_right _ _) (out 0 0 (by rw [if_pos hge])) d f hd hf1
    · have hlt : q < L := by omega
      have hT : tp2 h0 q = (h.2.1 2 q).toInt := by unfold tp2; rw [wC_2 hr]
      have hb := hb9 q
      rw [hT] at hb
      have hb1 : 0 ≤ (h.2.1 2 q).toInt := hb.1
      have hb2 : (h.2.1 2 q).toInt ≤ 255 := hb.2
      have hl2 : (h.2.1 2 q).toInt ≠ 32 := by
        intro z
        have := hb0 hlt
        rw [hT, z] at this
        cases this
      by_cases hlo : (h.2.1 2 q).toInt ≤ 31
      · exact ag_one hE hsm hr hL4 (by omega) (Nat.zero_le _) (s := 0) (v := 0) (b := (h.2.1 2 q).toInt) (ev := ag_MX) (eb := (0, 31)) hv0 ⟨hb1, hlo⟩ (ag_lt hlt) (bov_app (ag_o1 p1) (ag_oB rfl)) hx ag_a3 rfl (B' := B + F * (L + 4)) (Nat.le_add_right _ _) (out 3 _ (by rw [if_neg hge])) d f hd hf1
      · exact ag_one hE hsm hr hL4 (by omega) (Nat.zero_le _) (s := 0) (v := 0) (b := (h.2.1 2 q).toInt) (ev := ag_MX) (eb := (33, 255)) hv0 ⟨by show (33 : Int) ≤ _; omega, hb2⟩ (ag_lt hlt) (bov_app (ag_o1 p1) (ag_oB rfl)) hx ag_a4 rfl (B' := B + F * (L + 4)) (Nat.le_add_right _ _) (out 3 _ (by rw [if_neg hge])) d f hd hf1
  induction m with
  | zero => intro q x h hm hq hx hr p1 d f hd hf; exact fin q x h hq (fun z => by omega) hx hr p1 d f hd hf
  | succ m ih =>
    intro q x h hm hq hx hr p1 d f hd hf
    have hmul : F * (L + 5 + (m + 1)) = F * (L + 5 + m) + F := Nat.mul_succ F (L + 5 + m)
    have hmon : F * (L + 5) ≤ F * (L + 5 + m) := Nat.mul_le_mul_left F (Nat.le_add_right _ _)
    have hf1 : B + F * (L + 5 + m) + 1000000 ≤ f := by omega
    by_cases hb0 : q < L → isBl (tp2 h0 q) = false
    · exact fin q x h hq hb0 hx hr p1 d f hd (by omega)
    · have hlt : q < L := by
        by_cases z : q < L
        · exact z
        · exact absurd (fun z2 => absurd z2 z) hb0
      have hbl : isBl (tp2 h0 q) = true := by
        cases hz : isBl (tp2 h0 q) with
        | true => rfl
        | false => exact absurd (fun _ => hz) hb0
      have hT : tp2 h0 q = (h.2.1 2 q).toInt := by unfold tp2; rw [wC_2 hr]
      have h32 := isBl_s.mp hbl
      rw [hT] at h32
      have e0 : tkS (tp2 h0) L q = tkS (tp2 h0) L (q + 1) := by unfold tkS; exact sk_s hlt hbl
      unfold tkK tkE tkV
      rw [e0]
      refine ag_one hE hsm hr hL4 (by omega) (Nat.zero_le _) (s := 0) (v := 0) (b := (h.2.1 2 q).toInt) (ev := ag_MX) (eb := (32, 32)) ⟨by decide, by decide⟩ ⟨by show (32 : Int) ≤ _; omega, by show _ ≤ (32 : Int); omega⟩ (ag_lt hlt) (bov_app (ag_o1 p1) (ag_oB rfl)) hx ag_a1 rfl (B' := B + F * (L + 5 + m)) (Nat.le_add_right _ _) ?_ d f hd hf1
      intro y h' hy k2 k3 d f hd hf
      rw [ag_f1v] at hy
      have r1 := bpv_x k3 (c := 1) (k := 1) rfl (List.Mem.head _)
      rw [bvx_v] at r1
      exact ih (q + 1) y h' (by omega) (by omega) hy k2 r1 d f hd hf
set_option maxRecDepth 100000 in
theorem adv (hE : E.1 < 2147483648) (hsm : bSO E ctb B (60, smT)) (hb9 : ∀ i, 0 ≤ tp2 h i ∧ tp2 h i ≤ 255) (hF : 1000000 ≤ F) (hL4 : L ≤ 400) {q : Nat} (hq : q ≤ L) (hI : bHI h) (hP : bPS h) (hT : bTB ctb h.1) (p1 : (h.2.1 1 1).toInt = (L : Int)) (p4 : (h.2.1 1 4).toInt = (q : Int)) :
    ∀ d f, 60 ≤ d → B + F * 900 ≤ f → agQ h L (tkK (tp2 h) L q) (tkS (tp2 h) L q) (tkE (tp2 h) L q) (tkV (tp2 h) L q) (zex E f d 181 0 [some (.ref 1), none] [] h) := by
  intro d f hd hf
  have hmul : F * 900 = F * 899 + F := Nat.mul_succ F 899
  have hmon : F * (L + 5 + L) ≤ F * 899 := Nat.mul_le_mul_left F (by omega)
  refine seg (V := [(L : Int), (q : Int)]) (ca := 0) (sa := 0) (nv := 2) hE hsm (fun V S v w h _ _ _ z => nomatch (show false = true from z)) (show bRQ ctb wC h 0 0 h from ⟨hI, hP, hT, fun _ _ _ => rfl, Nat.le_refl _, Nat.le_refl _⟩) (benv_c (by omega) (by omega) (benv_c (by omega) (by omega) benv_n)) rfl bcs_n (bov_c (k := 1) rfl rfl rfl rfl (by rw [bvx_v]; exact p1) (bov_c (k := 4) rfl rfl rfl rfl (by rw [bvx_v]; exact p4) bov_n)) (show bLR _ [some (.inr (.inl (.ref 1))), none] [some (.ref 1), none] from ⟨⟨_, rfl, rfl⟩, trivial, trivial⟩) ag_0 (B' := B + F * (L + 5 + L)) (Nat.le_add_right _ _) ?_ ?_ d f hd (by omega)
  · intro N hN
    cases hN with
    | head => exact ⟨rfl, rfl, rfl⟩
    | tail _ hN => exact absurd hN List.not_mem_nil
  · intro N hN ls' h' k1 k2 k3 d f hd hf
    cases hN with
    | tail _ hN => exact absurd hN List.not_mem_nil
    | head =>
      obtain ⟨y, y1, y2⟩ := ag_aL_s k1
      rw [bvx_v] at y2
      have r1 := bpv_x k3 (c := 1) (k := 1) rfl (List.Mem.head _)
      rw [bvx_v] at r1
      subst y1
      exact ag_A hE hsm hb9 hF hL4 L q y h' (by omega) hq y2 k2 r1 d f hd hf
end AG2
