/-- a place where runs stop and begin anew: pc, locals, bounds, what holds of them, places, cells and slots made, measure -/
abbrev bNd : Type := Nat × bLs × List (Int × Int) × List (Int × List (Nat × Int)) × List (Nat × Nat × (Int × List (Nat × Int))) × (Int × List (Nat × Int)) × (Int × List (Nat × Int)) × (Int × List (Nat × Int))
def bNR (E : zE) (tb : bTb) (W : Nat) (h0 : zH) (V0 : List Int) (N : bNd) (V : List Int) (ls : zLs) (h : zH) : Prop :=
  bxt V0 V ∧ bLR V N.2.1 ls ∧ bSS E tb W h0 V (N.2.2.1.length, N.2.2.1, N.2.2.2.1, [], N.2.2.2.2.2.1, N.2.2.2.2.2.2.1) h ∧ bpv E V N.2.2.2.2.1 h
noncomputable def bid (n : Nat) : Nat → (List bI → Bool) → Bool := Nat.rec (motive := fun _ => Nat → (List bI → Bool) → Bool) (fun _ k => k []) (fun _ ih i k => afo (i + 1) fun i' => ih i' fun r => k ((0, [(i, 1)]) :: r)) n
def bidl : Nat → Nat → List bI
  | 0, _ => []
  | n + 1, i => (0, [(i, 1)]) :: bidl n (i + 1)
set_option maxRecDepth 100000 in
theorem bid_eq : ∀ (n i : Nat) (k : List bI → Bool), bid n i k = k (bidl n i)
  | 0, _, _ => rfl
  | n + 1, i, k => by
    show (afo (i + 1) fun i' => bid n i' fun r => k ((0, [(i, 1)]) :: r)) = _
    rw [afo_eq, bid_eq n]
    rfl
set_option maxRecDepth 100000 in
theorem bidl_len : ∀ n i, (bidl n i).length = n
  | 0, _ => rfl
  | n + 1, i => congrArg (· + 1) (bidl_len n (i + 1))
set_option maxRecDepth 100000 in
theorem bidl_at : ∀ (n i k : Nat) (g : bI), zat (bidl n i) k = some g → k < n ∧ g = (0, [(i + k, 1)])
  | 0, _, _, _, h => nomatch h
  | n + 1, i, 0, g, h => by
    have h : some (0, [(i, 1)]) = some g := h
    cases h
    exact ⟨Nat.succ_pos n, rfl⟩
  | n + 1, i, k + 1, g, h => by
    obtain ⟨h1, h2⟩ := bidl_at n (i + 1) k g h
    exact ⟨by omega, by rw [h2, show i + 1 + k = i + (k + 1) by omega]⟩
set_option maxRecDepth 100000 in
theorem zat_some {α : Type} : ∀ {l : List α} {i : Nat}, i < l.length → ∃ x, zat l i = some x
  | [], _, h => absurd h (Nat.not_lt_zero _)
  | a :: _, 0, _ => ⟨a, rfl⟩
  | _ :: l, i + 1, h => zat_some (l := l) (Nat.lt_of_succ_lt_succ h)
set_option maxRecDepth 100000 in
theorem bid_s {V0 V : List Int} (hx : bxt V0 V) : bsg V (bidl V0.length 0) V0 := by
  refine ⟨bidl_len _ _, ?_⟩
  intro i g hz
  obtain ⟨h1, h2⟩ := bidl_at _ _ _ _ hz
  obtain ⟨v, hv⟩ := zat_some h1
  refine ⟨v, hv, ?_⟩
  rw [h2, Nat.zero_add]
  exact brel_v (bxt_at hx hv)
section BCUT
variable {E : zE} {tb : bTb} {W : Nat} {h0 : zH} {V0 V : List Int} {S : bS} {h : zH}
noncomputable def bcg (S : bS) (ca sa : bI) : Bool := match S with
  | (nv, env, cs, ov, c0, s0) => cond (bsum (-1) c0 ca fun d => bch d (nv, env, cs, ov, c0, s0)) (bsum (-1) s0 sa fun d => bch d (nv, env, cs, ov, c0, s0)) false
set_option maxRecDepth 100000 in
theorem bcg_s (hS : bSS E tb W h0 V S h) {ca sa : bI} {x y : Int} (hx : brel V ca x) (hy : brel V sa y) (e : bcg S ca sa = true) : (h.2.2.2.1 : Int) ≤ (h0.2.2.2.1 : Int) + x ∧ (h.2.2.2.2 : Int) ≤ (h0.2.2.2.2 : Int) + y := by
  obtain ⟨nv, env, cs, ov, c0, s0⟩ := S
  obtain ⟨x', g1, g2⟩ := hS.2.2.2.2.2.2.2.2.1
  obtain ⟨y', g3, g4⟩ := hS.2.2.2.2.2.2.2.2.2
  have e : cond (bsum (-1) c0 ca fun d => bch d (nv, env, cs, ov, c0, s0)) (bsum (-1) s0 sa fun d => bch d (nv, env, cs, ov, c0, s0)) false = true := e
  obtain ⟨e1, e2⟩ := bcnd e
  obtain ⟨d, f1, e1⟩ := bsum_s hx g1 e1
  obtain ⟨d', f2, e2⟩ := bsum_s hy g3 e2
  have := bch_s hS f1 e1
  have := bch_s hS f2 e2
  omega
/-- does a state stand at that place, with a lesser measure? -/
noncomputable def bar1 (mu : bI) (m0 : Nat) (σ0 : List bI) (S : bS) (als : bLs) (N : bNd) : Bool := match N with
  | (_, al, env, cs, pov, ca, sa, mu') => bml S al m0 σ0 als fun m σ => bmo pov m σ S fun _ σ S => cond (bck S env σ) (cond (bcc S σ cs)
    (cond (bsF σ ca fun ca => bsF σ sa fun sa => bcg S ca sa) (bsF σ mu' fun u => cond (bcx u S) (bsum (-1) u mu fun d => bsum 1 (-1, []) d fun d => bcx d S) false) false) false) false
set_option maxRecDepth 100000 in
theorem bar1_s (hx : bxt V0 V) (hS : bSS E tb W h0 V S h) {mu : bI} {x : Int} (hmu : brel V mu x) {als : bLs} {ls : zLs} (hl : bLR V als ls) {N : bNd} (e : bar1 mu V0.length (bidl V0.length 0) S als N = true) : ∃ V9 y, bNR E tb W h0 V0 N V9 ls h ∧ brel V9 N.2.2.2.2.2.2.2 y ∧ 0 ≤ y ∧ y < x := by
  obtain ⟨pc, al, env, cs, pov, ca, sa, mu'⟩ := N
  have e : (bml S al V0.length (bidl V0.length 0) als fun m σ => bmo pov m σ S fun _ σ S => cond (bck S env σ) (cond (bcc S σ cs)
    (cond (bsF σ ca fun ca => bsF σ sa fun sa => bcg S ca sa) (bsF σ mu' fun u => cond (bcx u S) (bsum (-1) u mu fun d => bsum 1 (-1, []) d fun d => bcx d S) false) false) false) false) = true := e
  obtain ⟨Vc, σ, g1, g2, g3, e⟩ := bml_s hS (bid_s hx) (bidl_len _ _).symm hl e
  obtain ⟨V', S', Vc', σ', f1, f2, f3, f4, f5, e⟩ := bmo_s hS g2 rfl e
  obtain ⟨c1, e⟩ := bcnd e
  obtain ⟨c2, e⟩ := bcnd e
  obtain ⟨c3, e⟩ := bcnd e
  have c1 := bck_s f2 f4 c1
  have c2 := bcc_s f2 f4 c2
  obtain ⟨s1, a1, r1, a2, c3⟩ := bsF_b f4 (brel_c V' ca.1) c3
  obtain ⟨s2, a3, r2, a4, c3⟩ := bsF_b f4 (brel_c V' sa.1) c3
  have c3 := bcg_s f2 a2 a4 c3
  obtain ⟨s3, a5, r3, a6, e⟩ := bsF_b f4 (brel_c V' mu'.1) e
  obtain ⟨c4, e⟩ := bcnd e
  have c4 := bcx_s f2 a6 c4
  obtain ⟨d, a7, e⟩ := bsum_s (brel_up f1 hmu) a6 e
  obtain ⟨d', a8, e⟩ := bsum_s a7 (brel_c V' (-1)) e
  have c5 := bcx_s f2 a8 e
  obtain ⟨q1, q2, q3, q4, q5, q6, q7, q8, -, -⟩ := f2
  refine ⟨Vc', mu'.1 + s3, ⟨bxt_trans g1 f3, bLR_up f3 g3, ⟨c1, c1.1.symm, c2, fun q hq => absurd hq List.not_mem_nil, q5, q6, q7, q8, ⟨_, ⟨s1, a1, rfl⟩, c3.1⟩, ⟨_, ⟨s2, a3, rfl⟩, c3.2⟩⟩, f5⟩, ⟨s3, a5, rfl⟩, c4, by omega⟩
noncomputable def barn (mu : bI) (m0 : Nat) (σ0 : List bI) (pc : Nat) (S : bS) (als : bLs) (L : List bNd) : Bool := List.rec (motive := fun _ => Bool) false (fun N _ ih => cond (cond (Nat.beq N.1 pc) (bar1 mu m0 σ0 S als N) false) true ih) L
set_option maxRecDepth 100000 in
theorem barn_s {mu : bI} {m0 : Nat} {σ0 : List bI} {pc : Nat} {als : bLs} : ∀ {L : List bNd}, barn mu m0 σ0 pc S als L = true → ∃ N, N ∈ L ∧ N.1 = pc ∧ bar1 mu m0 σ0 S als N = true
  | [], e => nomatch e
  | N :: L, e => by
    have e : cond (cond (Nat.beq N.1 pc) (bar1 mu m0 σ0 S als N) false) true (barn mu m0 σ0 pc S als L) = true := e
    cases h1 : (cond (Nat.beq N.1 pc) (bar1 mu m0 σ0 S als N) false) with
    | true =>
      obtain ⟨h2, h3⟩ := bcnd h1
      exact ⟨N, List.mem_cons_self, abq h2, h3⟩
    | false =>
      rw [h1, cond_false] at e
      obtain ⟨N', h2, h3⟩ := barn_s e
      exact ⟨N', List.mem_cons_of_mem _ h2, h3⟩
noncomputable def bcuf (L : List bNd) (pc : Nat) : Bool := List.rec (motive := fun _ => Bool) false (fun N _ ih => cond (Nat.beq N.1 pc) true ih) L
noncomputable def bcvo (l : bPv) : (bO → Bool) → Bool := List.rec (motive := fun _ => (bO → Bool) → Bool) (fun k => k []) (fun q _ ih k => cond (Nat.beq q.1 1000000) false (ih fun r => k ((q.1, (.ofNat q.2.1, []), q.2.2) :: r))) l
set_option maxRecDepth 100000 in
theorem bcvo_s : ∀ {l : bPv} {k : bO → Bool}, bpv E V l h → bcvo l k = true → ∃ ov, bOV E V ov h ∧ k ov = true
  | [], k, _, e => ⟨[], fun q hq => absurd hq List.not_mem_nil, e⟩
  | q :: l, k, hp, e => by
    have e : cond (Nat.beq q.1 1000000) false (bcvo l fun r => k ((q.1, (.ofNat q.2.1, []), q.2.2) :: r)) = true := e
    cases hc : Nat.beq q.1 1000000 with
    | true => rw [hc] at e; cases e
    | false =>
      rw [hc, cond_false] at e
      obtain ⟨ov, h1, h2⟩ := bcvo_s (fun p hq => hp p (List.mem_cons_of_mem _ hq)) e
      refine ⟨_, ?_, h2⟩
      intro p hq
      cases hq with
      | head =>
        exact ⟨q.2.1, brel_c V _, hp q List.mem_cons_self⟩
      | tail _ hq => exact h1 p hq
/-- the run from a place -/
noncomputable def zst (W : Nat) (sm : bSt9) (sc : Option bI) (tb : bTb) (fin : bS → Option bV → Bool) (g D MI F : Nat) (L : List bNd) (N : bNd) : Bool := bid g 0 fun σ0 => match N with
  | (pc, al, env, cs, pov, ca, sa, mu) => afo env.length fun nv => bcvo pov fun ov => bbod1 W sm sc tb fin (zbc W sm sc tb (bcuf L) (fun d mi pc S als => cond (Nat.beq mi MI) (cond (Nat.beq d D) (barn mu g σ0 pc S als L) false) false) fin F) F (nv, env, cs, ov, ca, sa) [] D MI pc al []
set_option maxRecDepth 100000 in
theorem bSO_mono {B B' : Nat} (hB : B ≤ B') {sm : bSt9} (h : bSO E tb B sm) : bSO E tb B' sm := fun j l hl c hc h9 Vc ss h1 d f q hq hd hf => h j l hl c hc h9 Vc ss h1 d f q hq hd (by omega)
/-- from a place the run comes to its end, or to another place with a lesser measure -/
def bGd (E : zE) (tb : bTb) (W : Nat) (h0 : zH) (V0 : List Int) (B : Nat) (Q : Option zR → Prop) (D MI F : Nat) (L : List bNd) (N : bNd) : Prop :=
  ∀ B', B ≤ B' → ∀ V ls h x, bNR E tb W h0 V0 N V ls h → brel V N.2.2.2.2.2.2.2 x → 0 ≤ x →
    (∀ N', N' ∈ L → ∀ V' ls' h' y, bNR E tb W h0 V0 N' V' ls' h' → brel V' N'.2.2.2.2.2.2.2 y → 0 ≤ y → y < x → ∀ d f, D ≤ d → B' ≤ f → Q (zex E f d MI N'.1 ls' [] h')) →
    ∀ d f, D ≤ d → B' + F ≤ f → Q (zex E f d MI N.1 ls [] h)
set_option maxRecDepth 100000 in
theorem zst_s {B : Nat} {Q : Option zR → Prop} {sm : bSt9} {sc : Option bI} {fin : bS → Option bV → Bool} (hsm : bSO E tb B sm) (hsc : bSC E V0 sc) (hfin : bFin E tb W h0 V0 Q fin) {D MI F : Nat} {L : List bNd} {N : bNd} (hN : zst W sm sc tb fin V0.length D MI F L N = true) : bGd E tb W h0 V0 B Q D MI F L N := by
  intro B' hB V ls h x hR hx h9 hL d f hd hf
  obtain ⟨pc, al, env, cs, pov, ca, sa, mu⟩ := N
  unfold zst at hN
  rw [bid_eq] at hN
  have hN : (afo env.length fun nv => bcvo pov fun ov => bbod1 W sm sc tb fin (zbc W sm sc tb (bcuf L) (fun d mi pc S als => cond (Nat.beq mi MI) (cond (Nat.beq d D) (barn mu V0.length (bidl V0.length 0) pc S als L) false) false) fin F) F (nv, env, cs, ov, ca, sa) [] D MI pc al []) = true := hN
  rw [afo_eq] at hN
  obtain ⟨r1, r2, ⟨s1, s2, s3, s4, s5⟩, r4⟩ := hR
  obtain ⟨ov, o1, hN⟩ := bcvo_s (E := E) r4 hN
  have hsm' : bSO E tb B' sm := bSO_mono hB hsm
  have hsc' : bSC E V sc := ⟨hsc.1, fun N hN => brel_up r1 (hsc.2 N hN)⟩
  have hfin' : bFin E tb W h0 V Q fin := fun V' S v w h hx => hfin V' S v w h (bxt_trans r1 hx)
  refine bbod1_s (B := B') (V0 := V) (zbc_s ?_ hsm' hsc' hfin' F) hsm' hsc' hfin' _ _ _ _ _ _ _ _ hN V [] ls [] h d f hd hf (bxt_refl V) ⟨s1, s2, s3, o1, s5⟩ trivial r2 trivial
  intro V' S' d1 mi1 pc1 als1 ls1 h1 d2 f2 e1 e2 e3 e4 e5 e6
  obtain ⟨c1, e6⟩ := bcnd e6
  obtain ⟨c2, e6⟩ := bcnd e6
  have c1 := abq c1
  have c2 := abq c2
  obtain ⟨N', n1, n2, n3⟩ := barn_s e6
  obtain ⟨V9, y, k1, k2, k3, k4⟩ := bar1_s (bxt_trans r1 e3) e4 (brel_up e3 hx) e5 n3
  rw [c1, ← n2]
  exact hL N' n1 V9 ls1 h1 y k1 k2 k3 k4 d2 f2 (by omega) e2
set_option maxRecDepth 100000 in
theorem bcut {B : Nat} {Q : Option zR → Prop} {D MI F : Nat} {L : List bNd} (hL : ∀ N, N ∈ L → bGd E tb W h0 V0 B Q D MI F L N) :
    ∀ (m : Nat) (N : bNd), bGd E tb W h0 V0 B Q D MI F L N → ∀ V ls h x, bNR E tb W h0 V0 N V ls h → brel V N.2.2.2.2.2.2.2 x → x < m → 0 ≤ x → ∀ d f, D ≤ d → B + F * m ≤ f → Q (zex E f d MI N.1 ls [] h)
  | 0, N, hN, V, ls, h, x, hR, hx, hm, h9, d, f, hd, hf => by omega
  | m + 1, N, hN, V, ls, h, x, hR, hx, hm, h9, d, f, hd, hf => by
    have hmul : F * (m + 1) = F * m + F := Nat.mul_succ F m
    refine hN (B + F * m) (by omega) V ls h x hR hx h9 ?_ d f hd (by omega)
    intro N' n1 V' ls' h' y k1 k2 k3 k4 d2 f2 e1 e2
    exact bcut hL m N' (hL N' n1) V' ls' h' y k1 k2 (by omega) k3 d2 f2 e1 e2
end BCUT
/-- what a method leaves: does it fit one of the ways told? -/
def bdp : Nat → List bI → List bI
  | 0, l => l
  | _ + 1, [] => []
  | n + 1, _ :: l => bdp n l
noncomputable def bpm (A B m0 : Nat) (σ0 : List bI) (S : bS) (v : Option bV) (p : bPo) : Bool := cond (bcg S (.ofNat A, []) (.ofNat B, [])) (match p with
  | (penv, pcs, ret, pov) => (match ret, v with
    | none, none => bmo pov m0 σ0 S fun _ σ S => cond (bck S penv (bdp m0 σ)) (bcc S σ pcs) false
    | some a, some b => bmv m0 σ0 a b S fun m σ => bmo pov m σ S fun _ σ S => cond (bck S penv (bdp m0 σ)) (bcc S σ pcs) false
    | none, some _ => false
    | some _, none => false)) false
noncomputable def bfn (A B m0 : Nat) (σ0 : List bI) (l : List bPo) (S : bS) (v : Option bV) : Bool := List.rec (motive := fun _ => Bool) false (fun p _ ih => cond (bpm A B m0 σ0 S v p) true ih) l
section BFIN
variable {E : zE} {tb : bTb} {W : Nat} {h0 : zH} {V0 V : List Int} {S : bS} {h : zH}
set_option maxRecDepth 100000 in
theorem bdp_at : ∀ (n : Nat) (l : List bI) (i : Nat), zat (bdp n l) i = zat l (n + i)
  | 0, l, i => by rw [Nat.zero_add]; rfl
  | n + 1, [], i => rfl
  | n + 1, _ :: l, i => by
    rw [show n + 1 + i = (n + i) + 1 by omega]
    exact bdp_at n l i
set_option maxRecDepth 100000 in
theorem bdp_len : ∀ (n : Nat) (l : List bI), (bdp n l).length = l.length - n
  | 0, l => rfl
  | n + 1, [] => by simp [bdp]
  | n + 1, _ :: l => by
    show (bdp n l).length = _
    rw [bdp_len n l]
    simp
set_option maxRecDepth 100000 in
theorem zat_apr {α : Type} : ∀ (V U : List α) (i : Nat), zat (V ++ U) (V.length + i) = zat U i
  | [], U, i => by rw [show ([] : List α).length + i = i by simp]; rfl
  | a :: V, U, i => by
    rw [show (a :: V).length + i = (V.length + i) + 1 by simp only [List.length_cons]; omega]
    exact zat_apr V U i
set_option maxRecDepth 100000 in
theorem bdp_s {σ : List bI} {U : List Int} (hσ : bsg V σ (V0 ++ U)) : bsg V (bdp V0.length σ) U := by
  refine ⟨?_, ?_⟩
  · rw [bdp_len, hσ.1]
    simp
  · intro i g hz
    rw [bdp_at] at hz
    obtain ⟨v, h1, h2⟩ := hσ.2 _ _ hz
    rw [zat_apr] at h1
    exact ⟨v, h1, h2⟩
set_option maxRecDepth 100000 in
theorem bpm_s (hx : bxt V0 V) (hS : bSS E tb W h0 V S h) {A B : Nat} {v : Option bV} {w : Option Value} (hv : boV V v w) {p : bPo} (e : bpm A B V0.length (bidl V0.length 0) S v p = true) : h.2.2.2.1 ≤ h0.2.2.2.1 + A ∧ h.2.2.2.2 ≤ h0.2.2.2.2 + B ∧ bPR E V0 p w h := by
  unfold bpm at e
  obtain ⟨c1, e⟩ := bcnd e
  have c1 := bcg_s hS (brel_c V (A : Int)) (brel_c V (B : Int)) c1
  refine ⟨by omega, by omega, ?_⟩
  obtain ⟨penv, pcs, ret, pov⟩ := p
  simp only at e
  split at e
  · cases w with
    | some w => exact hv.elim
    | none =>
      obtain ⟨V', S', Vc', σ', f1, f2, f3, f4, f5, e⟩ := bmo_s hS (bid_s hx) (bidl_len _ _).symm e
      obtain ⟨e1, e2⟩ := bcnd e
      obtain ⟨U, rfl⟩ := f3
      exact ⟨U, bck_s f2 (bdp_s f4) e1, bcc_s f2 f4 e2, trivial, f5⟩
  · cases w with
    | none => exact hv.elim
    | some w =>
      obtain ⟨Vc, σ, g1, g2, g3, e⟩ := bmv_s hS (bid_s hx) (bidl_len _ _).symm hv e
      obtain ⟨V', S', Vc', σ', f1, f2, f3, f4, f5, e⟩ := bmo_s hS g2 rfl e
      obtain ⟨e1, e2⟩ := bcnd e
      obtain ⟨U, rfl⟩ := bxt_trans g1 f3
      exact ⟨U, bck_s f2 (bdp_s f4) e1, bcc_s f2 f4 e2, bVR_up f3 g3, f5⟩
  · cases e
  · cases e
set_option maxRecDepth 100000 in
theorem bfn_s {A B m0 : Nat} {σ0 : List bI} {v : Option bV} : ∀ {l : List bPo}, bfn A B m0 σ0 l S v = true → ∃ p, p ∈ l ∧ bpm A B m0 σ0 S v p = true
  | [], e => nomatch e
  | p :: l, e => by
    have e : cond (bpm A B m0 σ0 S v p) true (bfn A B m0 σ0 l S v) = true := e
    cases h1 : bpm A B m0 σ0 S v p with
    | true => exact ⟨p, List.mem_cons_self, h1⟩
    | false =>
      rw [h1, cond_false] at e
      obtain ⟨p', h2, h3⟩ := bfn_s e
      exact ⟨p', List.mem_cons_of_mem _ h2, h3⟩
end BFIN
/-- the runs of a method: from its entry (mu0: the measure's bound there) -/
noncomputable def bke (sm : bSt9) (tb : bTb) (j : Nat) (c : bSm) (mu0 F : Nat) (L : List bNd) : Bool := match c with
  | (D, W, A, B, args, env, cs, pov, posts) => (match zat zmi j with
    | none => false
    | some (_, mL, _, _, _, _) => bent args mL fun l => afo env.length fun g => bid g 0 fun σ0 => zst W sm none tb (bfn A B g σ0 posts) g D j F L (0, l, env, cs, pov, (0, []), (0, []), (.ofNat mu0, [])))
/-- from one of its other places -/
noncomputable def bkn (sm : bSt9) (tb : bTb) (j : Nat) (c : bSm) (F : Nat) (L : List bNd) (N : bNd) : Bool := match c with
  | (D, W, A, B, _, env, _, _, posts) => afo env.length fun g => bid g 0 fun σ0 => zst W sm none tb (bfn A B g σ0 posts) g D j F L N
/-- what a method's run shall end in -/
def bQm (E : zE) (tb : bTb) (c : bSm) (Vc : List Int) (h : zH) (o : Option zR) : Prop := ∃ v h', o = some (.inl v, h') ∧ bHI h' ∧ (bPS h' ∧ bTB tb h'.1) ∧ (∀ a k, Nat.testBit c.2.1 (bun a k) = false → h'.2.1 a k = h.2.1 a k) ∧
    h'.2.2.2.1 ≤ h.2.2.2.1 + c.2.2.1 ∧ h'.2.2.2.2 ≤ h.2.2.2.2 + c.2.2.2.1 ∧ ∃ p, p ∈ c.2.2.2.2.2.2.2.2 ∧ bPR E Vc p v h'
/-- a place of a method is good -/
def bGm (E : zE) (tb : bTb) (B j : Nat) (c : bSm) (F : Nat) (L : List bNd) (N : bNd) : Prop := ∀ Vc h, Vc.length = c.2.2.2.2.2.1.length → bHI h → bGd E tb c.2.1 h Vc B (bQm E tb c Vc h) c.1 j F L N
set_option maxRecDepth 100000 in
theorem bfn_fin {E : zE} {tb : bTb} {c : bSm} {Vc : List Int} {h : zH} : bFin E tb c.2.1 h Vc (bQm E tb c Vc h) (bfn c.2.2.1 c.2.2.2.1 Vc.length (bidl Vc.length 0) c.2.2.2.2.2.2.2.2) := by
  intro V S v w h' hx hS hv e
  obtain ⟨p, h1, h2⟩ := bfn_s e
  obtain ⟨h3, h4, h5⟩ := bpm_s hx hS hv h2
  exact ⟨w, h', rfl, hS.2.2.2.2.1, ⟨hS.2.2.2.2.2.1, hS.2.2.2.2.2.2.1⟩, hS.2.2.2.2.2.2.2.1, h3, h4, p, h1, h5⟩
set_option maxRecDepth 100000 in
theorem bkn_s {E : zE} (hE : E.1 < 2147483648) {tb : bTb} {B : Nat} {sm : bSt9} (hsm : bSO E tb B sm) {j F : Nat} {c : bSm} {L : List bNd} {N : bNd} (e : bkn sm tb j c F L N = true) : bGm E tb B j c F L N := by
  intro Vc h hlen hI
  obtain ⟨D, W, A, B9, args, env, cs, pov, posts⟩ := c
  have h1 : (afo env.length fun g => bid g 0 fun σ0 => zst W sm none tb (bfn A B9 g σ0 posts) g D j F L N) = true := e
  have hlen : Vc.length = env.length := hlen
  rw [afo_eq, bid_eq, ← hlen] at h1
  exact zst_s hsm (sc := none) ⟨hE, fun N z => by cases z⟩ (bfn_fin (c := (D, W, A, B9, args, env, cs, pov, posts))) h1
set_option maxRecDepth 100000 in
theorem bMTof {E : zE} (hE : E.1 < 2147483648) {tb : bTb} {B0 : Nat} {sm : bSt9} (hsm : bSO E tb B0 sm) {j mu0 F : Nat} {c : bSm} {L : List bNd} (he : bke sm tb j c mu0 F L = true) (hL : ∀ N, N ∈ L → bGm E tb B0 j c F L N) : bMT E tb (B0 + F * (mu0 + 1)) j c := by
  obtain ⟨D, W, A, B, args, env, cs, pov, posts⟩ := c
  intro Vc ss h d f q hq hd hf ha hv hcs hpv hI hP hT
  obtain ⟨na, mL, stc, ci, rk, kd⟩ := q
  have hlen : Vc.length = env.length := hv.1
  have he : (match zat zmi j with
    | none => false
    | some (_, mL, _, _, _, _) => bent args mL fun l => afo env.length fun g => bid g 0 fun σ0 => zst W sm none tb (bfn A B g σ0 posts) g D j F L (0, l, env, cs, pov, (0, []), (0, []), (.ofNat mu0, []))) = true := he
  rw [hq] at he
  have he : (bent args mL fun l => afo env.length fun g => bid g 0 fun σ0 => zst W sm none tb (bfn A B g σ0 posts) g D j F L (0, l, env, cs, pov, (0, []), (0, []), (.ofNat mu0, []))) = true := he
  obtain ⟨l, hl, he⟩ := bent_s ha he
  rw [afo_eq, bid_eq, ← hlen] at he
  have hfin := bfn_fin (E := E) (tb := tb) (c := (D, W, A, B, args, env, cs, pov, posts)) (Vc := Vc) (h := h)
  have he := zst_s (V0 := Vc) (h0 := h) (W := W) hsm (sc := none) ⟨hE, fun N z => by cases z⟩ hfin he
  have key := bcut (V0 := Vc) (h0 := h) (W := W) (fun N hN => hL N hN Vc h hlen hI) (mu0 + 1) _ he Vc (zent mL ss) h (mu0 : Int) ⟨bxt_refl Vc, hl, ⟨hv, hlen.symm, hcs, fun q hq => absurd hq List.not_mem_nil, hI, hP, hT, fun _ _ _ => rfl, ⟨0, brel_c Vc 0, by omega⟩, ⟨0, brel_c Vc 0, by omega⟩⟩, hpv⟩ (brel_c Vc _) (by omega) (by omega) d f hd hf
  obtain ⟨v, h', k1, k2, k3, k4, k5, k6, k7⟩ := key
  exact ⟨v, h', k1, k2, k3, k4, k5, k6, k7⟩
