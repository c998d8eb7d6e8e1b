set_option maxRecDepth 100000 in
theorem benv_c {V : List Int} {env : bE} {lo hi v : Int} (h1 : lo ≤ v) (h2 : v ≤ hi) (h : benv V env) : benv (v :: V) ((lo, hi) :: env) := by
  refine ⟨by simp [h.1], ?_⟩
  intro i a b hz
  cases i with
  | zero => cases hz; exact ⟨v, rfl, h1, h2⟩
  | succ i => exact h.2 i a b hz
set_option maxRecDepth 100000 in
theorem benv_n : benv [] [] := ⟨rfl, fun i lo hi z => nomatch z⟩
set_option maxRecDepth 100000 in
theorem benv_d {env : bE} {lo hi : Int} : ∀ {V : List Int}, benv V ((lo, hi) :: env) → ∃ v U, V = v :: U ∧ lo ≤ v ∧ v ≤ hi ∧ benv U env
  | [], h => by cases h.1
  | v :: U, h => by
    obtain ⟨w, h1, h2, h3⟩ := h.2 0 lo hi rfl
    cases h1
    exact ⟨v, U, rfl, h2, h3, Nat.succ.inj h.1, fun i a b hz => h.2 (i + 1) a b hz⟩
set_option maxRecDepth 100000 in
theorem benv_0 : ∀ {V : List Int}, benv V [] → V = []
  | [], _ => rfl
  | _ :: _, h => by cases h.1
set_option maxRecDepth 100000 in
theorem brel_1c {V : List Int} {i : Nat} {c a v : Int} (h1 : zat V i = some v) : brel V (c, [(i, a)]) (c + a * v) := ⟨a * v, ⟨v, 0, h1, rfl, (Int.add_zero _).symm⟩, rfl⟩
set_option maxRecDepth 100000 in
theorem brel_2c {V : List Int} {i j : Nat} {c a b v w : Int} (h1 : zat V i = some v) (h2 : zat V j = some w) : brel V (c, [(i, a), (j, b)]) (c + (a * v + b * w)) := ⟨a * v + b * w, ⟨v, b * w, h1, ⟨w, 0, h2, rfl, (Int.add_zero _).symm⟩, rfl⟩, rfl⟩
/-- what a state says beside its numbers -/
def bRS (tb : bTb) (W : Nat) (h0 h : zH) : Prop := bHI h ∧ bPS h ∧ bTB tb h.1 ∧ (∀ c k, Nat.testBit W (bun c k) = false → h.2.1 c k = h0.2.1 c k) ∧ h.2.2.2.1 ≤ h0.2.2.2.1 ∧ h.2.2.2.2 ≤ h0.2.2.2.2
set_option maxRecDepth 100000 in
theorem bRS_of {E : zE} {tb : bTb} {W : Nat} {h0 h : zH} {V : List Int} {nv : Nat} {env : bE} {cs : bC} {ov : bO} (hS : bSS E tb W h0 V (nv, env, cs, ov, (0, []), (0, [])) h) : bRS tb W h0 h := by
  obtain ⟨g1, g2, g3, g4, g5, g6, g7, g8, ⟨y, g9, g10⟩, ⟨z, g11, g12⟩⟩ := hS
  have h1 : y = 0 := brel_k g9
  have h2 : z = 0 := brel_k g11
  exact ⟨g5, g6, g7, g8, by omega, by omega⟩
set_option maxRecDepth 100000 in
theorem bSS_of {E : zE} {tb : bTb} {W : Nat} {h0 h : zH} (hr : bRS tb W h0 h) {V : List Int} {nv : Nat} {env : bE} {cs : bC} {ov : bO} (h1 : benv V env) (h2 : nv = V.length) (h3 : bcs V cs) (h4 : bOV E V ov h) : bSS E tb W h0 V (nv, env, cs, ov, (0, []), (0, [])) h := by
  obtain ⟨g1, g2, g3, g4, g5, g6⟩ := hr
  exact ⟨h1, h2, h3, h4, g1, g2, g3, g4, ⟨0, brel_c V 0, by omega⟩, ⟨0, brel_c V 0, by omega⟩⟩
set_option maxRecDepth 100000 in
theorem bRS_0 {tb : bTb} {W : Nat} {h : zH} (h1 : bHI h) (h2 : bPS h) (h3 : bTB tb h.1) : bRS tb W h h := ⟨h1, h2, h3, fun _ _ _ => rfl, Nat.le_refl _, Nat.le_refl _⟩
/-- a turn: from a state to places whose numbers are forms of those known -/
noncomputable def btz (W : Nat) (sm : bSt9) (tb : bTb) (fin : bS → Option bV → Bool) (D MI F g : Nat) (L : List bNd) (S : bS) (pc : Nat) (al : bLs) : Bool := bid g 0 fun σ0 => bbod1 W sm none tb fin (zbc W sm none tb (bcuf L) (fun d mi pc S als => cond (Nat.beq mi MI) (cond (Nat.beq d D) (barn (1, []) g σ0 pc S als L) false) false) fin F) F S [] D MI pc al []
set_option maxRecDepth 100000 in
theorem btz_s {E : zE} (hE : E.1 < 2147483648) {tb : bTb} {W : Nat} {h0 h : zH} {V0 V : List Int} {B : Nat} {Q : Option zR → Prop} {sm : bSt9} {fin : bS → Option bV → Bool} {D MI F g : Nat} {L : List bNd} {S : bS} {pc : Nat} {al : bLs} {ls : zLs}
    (hsm : bSO E tb B sm) (hfin : bFin E tb W h0 V0 Q fin) (hx : bxt V0 V) (hg : V.length = g) (hS : bSS E tb W h0 V S h) (hl : bLR V al ls) (e : btz W sm tb fin D MI F g L S pc al = true) {B' : Nat} (hB : B ≤ B')
    (hL : ∀ N, N ∈ L → ∀ V' ls' h', bNR E tb W h0 V N V' ls' h' → ∀ d f, D ≤ d → B' ≤ f → Q (zex E f d MI N.1 ls' [] h')) : ∀ d f, D ≤ d → B' + F ≤ f → Q (zex E f d MI pc ls [] h) := by
  intro d f hd hf
  unfold btz at e
  rw [bid_eq, ← hg] at e
  have hsm' : bSO E tb B' sm := bSO_mono hB hsm
  have hsc' : bSC E V (none : Option bI) := ⟨hE, fun N z => by cases z⟩
  have hfin' : bFin E tb W h0 V Q fin := fun V' S v w h hy => hfin V' S v w h (bxt_trans hx hy)
  refine bbod1_s (B := B') (V0 := V) (zbc_s ?_ hsm' hsc' hfin' F) hsm' hsc' hfin' _ _ _ _ _ _ _ _ e V [] ls [] h d f hd hf (bxt_refl V) hS trivial hl trivial
  intro V' S' d1 mi1 pc1 als1 ls1 h1 d2 f2 e1 e2 e3 e4 e5 e6
  obtain ⟨c1, e6⟩ := bcnd e6
  obtain ⟨c2, e6⟩ := bcnd e6
  have c1 := abq c1
  have c2 := abq c2
  obtain ⟨N', n1, n2, n3⟩ := barn_s e6
  obtain ⟨V9, y, k1, k2, k3, k4⟩ := bar1_s e3 e4 (brel_c V' 1) e5 n3
  rw [c1, ← n2]
  exact hL N' n1 V9 ls1 h1 k1 d2 f2 (by omega) e2
set_option maxRecDepth 100000 in
theorem bxt_up1 {V : List Int} {v : Int} {f : bI} {x : Int} (e : brel V f x) : brel (V ++ [v]) f x := brel_up ⟨[v], rfl⟩ e
set_option maxRecDepth 100000 in
theorem bNR_V {E : zE} {tb : bTb} {W : Nat} {h0 : zH} {V0 V : List Int} {N : bNd} {ls : zLs} {h : zH} (h1 : bNR E tb W h0 V0 N V ls h) (h2 : N.2.2.1.length = V0.length) : V = V0 := by
  obtain ⟨⟨U, hU⟩, -, hS, -⟩ := h1
  have h3 : N.2.2.1.length = V.length := hS.2.1
  rw [h2, hU, List.length_append] at h3
  have : U = [] := List.length_eq_zero_iff.mp (by omega)
  rw [hU, this, List.append_nil]
/-! a line of THE LAW, held against a person and a room: by its depths -/
def hlL (t i : bI) : bLs := [some (.inr (.inl (.ref 84))), some (.inl (0, [(0, 1)])), some (.inl (0, [(1, 1)])), some (.inl (0, [(2, 1)])), some (.inl (0, [(3, 1)])), some (.inl t), some (.inl (778, [(0, 4)])), some (.inl i), none, none, none, none]
def hlE (t i : Int × Int) : bE := [(0, 11), (0, 7), (0, 11), (0, 1), (1, 12), t, i, (0, 400)]
def hlP (ls : zLs) (ln p r nb top i : Int) : Prop := ∃ a1 a2 a3 a4 a5 a6 a7 : Int32, ∃ w8 w9 w10 w11, ls = [some (.ref 84), some (.int a1), some (.int a2), some (.int a3), some (.int a4), some (.int a5), some (.int a6), some (.int a7), w8, w9, w10, w11] ∧
  a1.toInt = ln ∧ a2.toInt = p ∧ a3.toInt = r ∧ a4.toInt = nb ∧ a5.toInt = top ∧ a6.toInt = 778 + 4 * ln ∧ a7.toInt = i
set_option maxRecDepth 100000 in
theorem hlP_of {V : List Int} {t i : bI} {ls : zLs} (h : bLR V (hlL t i) ls) {ln p r nb top ii : Int} (h0 : zat V 0 = some ln) (h1 : zat V 1 = some p) (h2 : zat V 2 = some r) (h3 : zat V 3 = some nb) (ht : brel V t top) (hi : brel V i ii) : hlP ls ln p r nb top ii := by
  obtain ⟨l, e2, k1⟩ := bls_r h
  subst e2
  obtain ⟨a1, l, e2, q1, k2⟩ := bls_i k1
  subst e2
  obtain ⟨a2, l, e2, q2, k3⟩ := bls_i k2
  subst e2
  obtain ⟨a3, l, e2, q3, k4⟩ := bls_i k3
  subst e2
  obtain ⟨a4, l, e2, q4, k5⟩ := bls_i k4
  subst e2
  obtain ⟨a5, l, e2, q5, k6⟩ := bls_i k5
  subst e2
  obtain ⟨a6, l, e2, q6, k7⟩ := bls_i k6
  subst e2
  obtain ⟨a7, l, e2, q7, k8⟩ := bls_i k7
  subst e2
  obtain ⟨w8, l, e2, k9⟩ := bls_n k8
  subst e2
  obtain ⟨w9, l, e2, k10⟩ := bls_n k9
  subst e2
  obtain ⟨w10, l, e2, k11⟩ := bls_n k10
  subst e2
  obtain ⟨w11, l, e2, k12⟩ := bls_n k11
  subst e2
  have e2 := bls_0 k12
  subst e2
  exact ⟨a1, a2, a3, a4, a5, a6, a7, w8, w9, w10, w11, rfl, brel_f q1 (brel_v h0), brel_f q2 (brel_v h1), brel_f q3 (brel_v h2), brel_f q4 (brel_v h3), brel_f q5 ht, brel_f q6 (brel_1c h0), brel_f q7 hi⟩
set_option maxRecDepth 100000 in
theorem hlP_to {V : List Int} {t i : bI} {ls : zLs} {ln p r nb top ii : Int} (h : hlP ls ln p r nb top ii) (h0 : zat V 0 = some ln) (h1 : zat V 1 = some p) (h2 : zat V 2 = some r) (h3 : zat V 3 = some nb) (ht : brel V t top) (hi : brel V i ii) : bLR V (hlL t i) ls := by
  obtain ⟨a1, a2, a3, a4, a5, a6, a7, w8, w9, w10, w11, e2, q1, q2, q3, q4, q5, q6, q7⟩ := h
  subst e2
  refine ⟨⟨_, rfl, rfl⟩, ⟨_, rfl, a1, rfl, ?_⟩, ⟨_, rfl, a2, rfl, ?_⟩, ⟨_, rfl, a3, rfl, ?_⟩, ⟨_, rfl, a4, rfl, ?_⟩, ⟨_, rfl, a5, rfl, ?_⟩, ⟨_, rfl, a6, rfl, ?_⟩, ⟨_, rfl, a7, rfl, ?_⟩, trivial, trivial, trivial, trivial, trivial⟩
  · rw [q1]; exact brel_v h0
  · rw [q2]; exact brel_v h1
  · rw [q3]; exact brel_v h2
  · rw [q4]; exact brel_v h3
  · rw [q5]; exact ht
  · rw [q6]; exact brel_1c h0
  · rw [q7]; exact hi
def hlN (e : bE) (t i : bI) : bNd := (23, hlL t i, e, [], [], (0, []), (0, []), (0, []))
def hlS (t s : Int × Int) : bS := (9, hlE t (0, 399) ++ [s], [(-1, [(6, -1), (7, 1)])], [(85, (781, [(0, 4)]), (0, [(7, 1)])), (85, (826, [(6, 2)]), (0, [(8, 1)]))], (0, []), (0, []))
def hlX : bS := (8, hlE (0, 400) (0, 400), [(0, [(6, 1), (7, -1)])], [(85, (781, [(0, 4)]), (0, [(7, 1)]))], (0, []), (0, []))
def hlB : bS := (6, [(0, 11), (0, 7), (0, 11), (0, 1), (1, 12), (0, 400)], [], [(85, (780, [(0, 4)]), (0, [(5, 1)]))], (0, []), (0, []))
noncomputable def hlF : bS → Option bV → Bool := bfn 0 0 5 (bidl 5 0) sc344.2.2.2.2.2.2.2.2
set_option maxRecDepth 100000 in
theorem hl_x : btz sc344.2.1 (3, smT) ctb hlF 3 268 1000000 8 [] hlX 23 (hlL (0, [(5, 1)]) (0, [(6, 1)])) = true := by decide +kernel
set_option maxRecDepth 100000 in
theorem hl_1 : btz sc344.2.1 (3, smT) ctb hlF 3 268 1000000 9 [hlN (hlE (0, 399) (0, 399) ++ [((-1), 8)]) (1, [(5, 1)]) (1, [(6, 1)])] (hlS (0, 399) (-1, 8)) 23 (hlL (0, [(5, 1)]) (0, [(6, 1)])) = true := by decide +kernel
set_option maxRecDepth 100000 in
theorem hl_2 : btz sc344.2.1 (3, smT) ctb hlF 3 268 1000000 9 [hlN (hlE (1, 399) (0, 399) ++ [(12, 12)]) (0, [(5, 1)]) (1, [(6, 1)])] (hlS (1, 399) (12, 12)) 23 (hlL (0, [(5, 1)]) (0, [(6, 1)])) = true := by decide +kernel
set_option maxRecDepth 100000 in
theorem hl_3 : btz sc344.2.1 (3, smT) ctb hlF 3 268 1000000 9 [hlN (hlE (2, 399) (0, 399) ++ [(9, 11)]) (-1, [(5, 1)]) (1, [(6, 1)])] (hlS (2, 399) (9, 11)) 23 (hlL (0, [(5, 1)]) (0, [(6, 1)])) = true := by decide +kernel
set_option maxRecDepth 100000 in
theorem hl_4 : btz sc344.2.1 (3, smT) ctb hlF 3 268 1000000 9 [hlN (hlE (2, 399) (0, 399) ++ [(13, 14)]) (-1, [(5, 1)]) (1, [(6, 1)])] (hlS (2, 399) (13, 14)) 23 (hlL (0, [(5, 1)]) (0, [(6, 1)])) = true := by decide +kernel
set_option maxRecDepth 100000 in
theorem hl_b : btz sc344.2.1 (3, smT) ctb hlF 3 268 1000000 6 [hlN [(0, 11), (0, 7), (0, 11), (0, 1), (1, 12), (0, 400)] (0, []) (0, [(5, 1)])] hlB 0 [some (.inr (.inl (.ref 84))), some (.inl (0, [(0, 1)])), some (.inl (0, [(1, 1)])), some (.inl (0, [(2, 1)])), some (.inl (0, [(3, 1)])), none, none, none, none, none, none, none] = true := by decide +kernel
set_option maxRecDepth 100000 in
theorem hlW : ∀ r : Nat, r < 24 → Nat.testBit sc344.2.1 (bU85 + r) = false := by decide +kernel
set_option maxRecDepth 100000 in
theorem hl85 {h0 h : zH} (hr : bRS ctb sc344.2.1 h0 h) (k : Nat) : h.2.1 85 k = h0.2.1 85 k := hr.2.2.2.1 85 k (by rw [bun85]; exact hlW _ (breg_l k))
set_option maxRecDepth 100000 in
theorem hlst : ∀ i : Nat, i < 400 → bwinv (826 + 2 * i) = (-1, 14) := by decide +kernel
set_option maxRecDepth 100000 in
theorem hlfr : ∀ n : Nat, n < 12 → bwinv (780 + 4 * n) = (0, 400) ∧ bwinv (781 + 4 * n) = (0, 400) := by decide +kernel
set_option maxRecDepth 100000 in
theorem hl_ov {E : zE} {V : List Int} {h : zH} {c0 a v : Int} {i : Nat} {vi x : Int} {k q : Nat} (h1 : zat V i = some vi) (h2 : c0 + a * vi = (k : Int)) (h3 : zat V q = some x) (h4 : (h.2.1 85 k).toInt = x) : ∃ j : Nat, brel V (c0, [(i, a)]) (j : Int) ∧ brel V (0, [(q, 1)]) (bvl E h 85 j) := by
  refine ⟨k, ?_, ?_⟩
  · rw [← h2]; exact brel_1c h1
  · rw [bvl_n (show Nat.blt 85 900 = true from rfl), h4]; exact brel_v h3
section HL
variable {E : zE} {B : Nat} {Q : Option zR → Prop} {h0 : zH} {n p r nb cnt : Int} {ln fr to : Nat} {dep : Nat → Nat}
set_option maxRecDepth 100000 in
theorem hl_turn (hE : E.1 < 2147483648) (hsm : bSO E ctb B (3, smT)) (hfin : bFin E ctb sc344.2.1 h0 [(ln : Int), p, r, nb, cnt] Q hlF)
    (b0 : ln ≤ 11) (b1 : 0 ≤ p ∧ p ≤ 7) (b2 : 0 ≤ r ∧ r ≤ 11) (b3 : 0 ≤ nb ∧ nb ≤ 1) (b4 : 1 ≤ cnt ∧ cnt ≤ 12) (hto : (h0.2.1 85 (781 + 4 * ln)).toInt = (to : Int)) (ht4 : to ≤ 400)
    {t s0 : Int × Int} {dt : Int} {top i : Nat} (hbt : t.1 ≤ (top : Int) ∧ (top : Int) ≤ t.2) (hi : i < to) (hs : s0.1 ≤ (h0.2.1 85 (826 + 2 * i)).toInt ∧ (h0.2.1 85 (826 + 2 * i)).toInt ≤ s0.2)
    (e : btz sc344.2.1 (3, smT) ctb hlF 3 268 1000000 9 [hlN (hlE t (0, 399) ++ [s0]) (dt, [(5, 1)]) (1, [(6, 1)])] (hlS t s0) 23 (hlL (0, [(5, 1)]) (0, [(6, 1)])) = true)
    {ls : zLs} {h : zH} (hl : hlP ls ln p r nb top i) (hr : bRS ctb sc344.2.1 h0 h) {B' F : Nat} (hF : 1000000 ≤ F) (hB : B ≤ B')
    (hL : ∀ ls' h', hlP ls' ln p r nb (dt + top) (1 + i) → bRS ctb sc344.2.1 h0 h' → ∀ d f, 3 ≤ d → B' ≤ f → Q (zex E f d 268 23 ls' [] h')) : ∀ d f, 3 ≤ d → B' + F ≤ f → Q (zex E f d 268 23 ls [] h) := by
  intro d f hd hf
  obtain ⟨s, hs9⟩ : ∃ s : Int, (h0.2.1 85 (826 + 2 * i)).toInt = s := ⟨_, rfl⟩
  rw [hs9] at hs
  have hg : [(ln : Int), p, r, nb, cnt, (top : Int), (i : Int), (to : Int), s].length = 9 := rfl
  refine btz_s (V := [(ln : Int), p, r, nb, cnt, (top : Int), (i : Int), (to : Int), s]) hE hsm hfin ⟨[(top : Int), (i : Int), (to : Int), s], rfl⟩ hg (bSS_of hr ?_ rfl ?_ ?_) (hlP_to hl rfl rfl rfl rfl (brel_v rfl) (brel_v rfl)) e hB ?_ d f hd (by omega)
  · exact benv_c (by omega) (by omega) (benv_c b1.1 b1.2 (benv_c b2.1 b2.2 (benv_c b3.1 b3.2 (benv_c b4.1 b4.2 (benv_c hbt.1 hbt.2 (benv_c (by omega) (by omega) (benv_c (by omega) (by omega) (benv_c hs.1 hs.2 benv_n))))))))
  · intro C hC
    cases hC with
    | head => exact ⟨_, brel_2c (v := (i : Int)) (w := (to : Int)) rfl rfl, by omega⟩
    | tail _ hC => exact absurd hC List.not_mem_nil
  · intro q hq
    cases hq with
    | head => exact hl_ov (v := 0) (i := 0) (vi := (ln : Int)) (k := 781 + 4 * ln) rfl (by omega) (q := 7) rfl (by rw [hl85 hr]; exact hto)
    | tail _ hq =>
      cases hq with
      | head => exact hl_ov (v := 0) (i := 6) (vi := (i : Int)) (k := 826 + 2 * i) rfl (by omega) (q := 8) rfl (by rw [hl85 hr]; exact hs9)
      | tail _ hq => exact absurd hq List.not_mem_nil
  · intro N hN V' ls' h' hR d f hd hf
    cases hN with
    | tail _ hN => exact absurd hN List.not_mem_nil
    | head =>
      have hV := bNR_V hR rfl
      subst hV
      obtain ⟨-, k1, k2, -⟩ := hR
      refine hL ls' h' (hlP_of k1 rfl rfl rfl rfl ?_ ?_) (bRS_of k2) d f hd hf
      · have := brel_1c (V := [(ln : Int), p, r, nb, cnt, (top : Int), (i : Int), (to : Int), s]) (i := 5) (c := dt) (a := 1) (v := (top : Int)) rfl
        rw [Int.one_mul] at this
        exact this
      · have := brel_1c (V := [(ln : Int), p, r, nb, cnt, (top : Int), (i : Int), (to : Int), s]) (i := 6) (c := 1) (a := 1) (v := (i : Int)) rfl
        rw [Int.one_mul] at this
        exact this
set_option maxRecDepth 100000 in
theorem hl_loop {F : Nat} (hF : 1000000 ≤ F) (hE : E.1 < 2147483648) (hsm : bSO E ctb B (3, smT)) (hI : bHI h0) (hfin : bFin E ctb sc344.2.1 h0 [(ln : Int), p, r, nb, cnt] Q hlF)
    (b0 : ln ≤ 11) (b1 : 0 ≤ p ∧ p ≤ 7) (b2 : 0 ≤ r ∧ r ≤ 11) (b3 : 0 ≤ nb ∧ nb ≤ 1) (b4 : 1 ≤ cnt ∧ cnt ≤ 12) (hto : (h0.2.1 85 (781 + 4 * ln)).toInt = (to : Int)) (ht4 : to ≤ 400)
    (hdep : ∀ i : Nat, fr ≤ i → i < to → ((h0.2.1 85 (826 + 2 * i)).toInt ≤ 8 → dep (i + 1) = dep i + 1) ∧ ((h0.2.1 85 (826 + 2 * i)).toInt = 12 → 1 ≤ dep i ∧ dep (i + 1) = dep i) ∧ (8 < (h0.2.1 85 (826 + 2 * i)).toInt → (h0.2.1 85 (826 + 2 * i)).toInt ≠ 12 → 2 ≤ dep i ∧ dep (i + 1) + 1 = dep i)) :
    ∀ (m i : Nat) (ls : zLs) (h : zH), to ≤ i + m → i ≤ 400 → fr ≤ i → dep i ≤ i → hlP ls ln p r nb (dep i : Nat) i → bRS ctb sc344.2.1 h0 h → ∀ d f, 3 ≤ d → B + F * (m + 1) ≤ f → Q (zex E f d 268 23 ls [] h) := by
  intro m
  induction m with
  | zero =>
    intro i ls h hm i4 hfr hde hl hr d f hd hf
    have hmul : F * (0 + 1) = F := Nat.mul_one F
    refine btz_s (V := [(ln : Int), p, r, nb, cnt, (dep i : Int), (i : Int), (to : Int)]) hE hsm hfin ⟨[(dep i : Int), (i : Int), (to : Int)], rfl⟩ rfl (bSS_of hr ?_ rfl ?_ ?_) (hlP_to hl rfl rfl rfl rfl (brel_v rfl) (brel_v rfl)) hl_x (Nat.le_refl B) (fun N hN => absurd hN List.not_mem_nil) d f hd (by omega)
    · exact benv_c (by omega) (by omega) (benv_c b1.1 b1.2 (benv_c b2.1 b2.2 (benv_c b3.1 b3.2 (benv_c b4.1 b4.2 (benv_c (by omega) (by omega) (benv_c (by omega) (by omega) (benv_c (by omega) (by omega) benv_n)))))))
    · intro C hC
      cases hC with
      | head => exact ⟨_, brel_2c (v := (i : Int)) (w := (to : Int)) rfl rfl, by omega⟩
      | tail _ hC => exact absurd hC List.not_mem_nil
    · intro q hq
      cases hq with
      | head => exact hl_ov (v := 0) (i := 0) (vi := (ln : Int)) (k := 781 + 4 * ln) rfl (by omega) (q := 7) rfl (by rw [hl85 hr]; exact hto)
      | tail _ hq => exact absurd hq List.not_mem_nil
  | succ m ih =>
    intro i ls h hm i4 hfr hde hl hr d f hd hf
    have hmul : F * (m + 1 + 1) = F * (m + 1) + F := Nat.mul_succ F (m + 1)
    have hF9 : B + 1000000 ≤ f := by omega
    have hF8 : B + F * (m + 1) + F ≤ f := by omega
    by_cases hi : i < to
    · have hst := hI.1 85 (826 + 2 * i)
      rw [biv85, hlst i (by omega)] at hst
      have hst1 : -1 ≤ (h0.2.1 85 (826 + 2 * i)).toInt := hst.1
      have hst2 : (h0.2.1 85 (826 + 2 * i)).toInt ≤ 14 := hst.2
      obtain ⟨d1, d2, d3⟩ := hdep i hfr hi
      have next : ∀ dt : Int, (dep (i + 1) : Int) = dt + dep i → dep (i + 1) ≤ i + 1 → ∀ ls' h', hlP ls' ln p r nb (dt + (dep i : Nat)) (1 + (i : Nat)) → bRS ctb sc344.2.1 h0 h' → ∀ d f, 3 ≤ d → B + F * (m + 1) ≤ f → Q (zex E f d 268 23 ls' [] h') := by
        intro dt q1 q2 ls' h' q3 q4
        rw [← q1, show (1 : Int) + (i : Nat) = ((i + 1 : Nat) : Int) by omega] at q3
        exact ih (i + 1) ls' h' (by omega) (by omega) (by omega) q2 q3 q4
      by_cases c1 : (h0.2.1 85 (826 + 2 * i)).toInt ≤ 8
      · have := d1 c1
        exact hl_turn (t := (0, 399)) (s0 := (-1, 8)) (dt := 1) hE hsm hfin b0 b1 b2 b3 b4 hto ht4 ⟨by show (0 : Int) ≤ _; omega, by show _ ≤ (399 : Int); omega⟩ hi ⟨hst1, c1⟩ hl_1 hl hr (B' := B + F * (m + 1)) hF (Nat.le_add_right _ _) (next 1 (by omega) (by omega)) d f hd hF8
      · by_cases c2 : (h0.2.1 85 (826 + 2 * i)).toInt = 12
        · have := d2 c2
          exact hl_turn (t := (1, 399)) (s0 := (12, 12)) (dt := 0) hE hsm hfin b0 b1 b2 b3 b4 hto ht4 ⟨by show (1 : Int) ≤ _; omega, by show _ ≤ (399 : Int); omega⟩ hi ⟨by show (12 : Int) ≤ _; omega, by show _ ≤ (12 : Int); omega⟩ hl_2 hl hr (B' := B + F * (m + 1)) hF (Nat.le_add_right _ _) (next 0 (by omega) (by omega)) d f hd hF8
        · have := d3 (by omega) c2
          by_cases c3 : (h0.2.1 85 (826 + 2 * i)).toInt ≤ 11
          · exact hl_turn (t := (2, 399)) (s0 := (9, 11)) (dt := -1) hE hsm hfin b0 b1 b2 b3 b4 hto ht4 ⟨by show (2 : Int) ≤ _; omega, by show _ ≤ (399 : Int); omega⟩ hi ⟨by show (9 : Int) ≤ _; omega, by show _ ≤ (11 : Int); omega⟩ hl_3 hl hr (B' := B + F * (m + 1)) hF (Nat.le_add_right _ _) (next (-1) (by omega) (by omega)) d f hd hF8
          · exact hl_turn (t := (2, 399)) (s0 := (13, 14)) (dt := -1) hE hsm hfin b0 b1 b2 b3 b4 hto ht4 ⟨by show (2 : Int) ≤ _; omega, by show _ ≤ (399 : Int); omega⟩ hi ⟨by show (13 : Int) ≤ _; omega, by show _ ≤ (14 : Int); omega⟩ hl_4 hl hr (B' := B + F * (m + 1)) hF (Nat.le_add_right _ _) (next (-1) (by omega) (by omega)) d f hd hF8
    · refine btz_s (V := [(ln : Int), p, r, nb, cnt, (dep i : Int), (i : Int), (to : Int)]) hE hsm hfin ⟨[(dep i : Int), (i : Int), (to : Int)], rfl⟩ rfl (bSS_of hr ?_ rfl ?_ ?_) (hlP_to hl rfl rfl rfl rfl (brel_v rfl) (brel_v rfl)) hl_x (Nat.le_refl B) (fun N hN => absurd hN List.not_mem_nil) d f hd hF9
      · exact benv_c (by omega) (by omega) (benv_c b1.1 b1.2 (benv_c b2.1 b2.2 (benv_c b3.1 b3.2 (benv_c b4.1 b4.2 (benv_c (by omega) (by omega) (benv_c (by omega) (by omega) (benv_c (by omega) (by omega) benv_n)))))))
      · intro C hC
        cases hC with
        | head => exact ⟨_, brel_2c (v := (i : Int)) (w := (to : Int)) rfl rfl, by omega⟩
        | tail _ hC => exact absurd hC List.not_mem_nil
      · intro q hq
        cases hq with
        | head => exact hl_ov (v := 0) (i := 0) (vi := (ln : Int)) (k := 781 + 4 * ln) rfl (by omega) (q := 7) rfl (by rw [hl85 hr]; exact hto)
        | tail _ hq => exact absurd hq List.not_mem_nil
end HL
set_option maxRecDepth 100000 in
theorem zmi268 : zat zmi 268 = some (5, 12, 0, 12, 2, 0) := rfl
set_option maxRecDepth 100000 in
theorem st344 {E : zE} (hE : E.1 ≤ 4000) {B : Nat} (hsm : bSO E ctb B (3, smT)) : bMT E ctb (B + 1000000 * 402) 268 sc344 := by
  intro Vc ss h d f q hq hd hf ha hv hcs hpv hI hP hT
  rw [zmi268] at hq
  cases hq
  obtain ⟨w, h1, ha1⟩ := bKR_o ha
  subst h1
  obtain ⟨a1, w, h1, x1, ha2⟩ := bKR_i ha1
  subst h1
  obtain ⟨a2, w, h1, x2, ha3⟩ := bKR_i ha2
  subst h1
  obtain ⟨a3, w, h1, x3, ha4⟩ := bKR_i ha3
  subst h1
  obtain ⟨a4, w, h1, x4, ha5⟩ := bKR_i ha4
  subst h1
  cases bKR_n ha5
  obtain ⟨n, U, h1, l0, u0, hv1⟩ := benv_d hv
  subst h1
  obtain ⟨p, U, h1, l1, u1, hv2⟩ := benv_d hv1
  subst h1
  obtain ⟨r, U, h1, l2, u2, hv3⟩ := benv_d hv2
  subst h1
  obtain ⟨nb, U, h1, l3, u3, hv4⟩ := benv_d hv3
  subst h1
  obtain ⟨cnt, U, h1, l4, u4, hv5⟩ := benv_d hv4
  subst h1
  cases benv_0 hv5
  obtain ⟨ln, hln⟩ : ∃ ln : Nat, n = (ln : Int) := ⟨n.toNat, by omega⟩
  subst hln
  have hcnt : (h.2.1 85 777).toInt = cnt := by
    have := brel_f (hpv _ (List.Mem.head _)) (brel_v rfl)
    rw [bvl_n (show Nat.blt 85 900 = true from rfl)] at this
    exact this
  obtain ⟨y, y1, y2⟩ := hcs _ (List.Mem.head _)
  have y1 := brel_f y1 (brel_2c rfl rfl)
  obtain ⟨dep, d1, d2⟩ := hI.2.2.1.2.1 ln (by rw [hcnt]; omega)
  have hfr := hI.1 85 (780 + 4 * ln)
  have hto := hI.1 85 (781 + 4 * ln)
  rw [biv85, (hlfr ln (by omega)).1] at hfr
  rw [biv85, (hlfr ln (by omega)).2] at hto
  have hfr1 : 0 ≤ (h.2.1 85 (780 + 4 * ln)).toInt := hfr.1
  have hfr2 : (h.2.1 85 (780 + 4 * ln)).toInt ≤ 400 := hfr.2
  have hto1 : 0 ≤ (h.2.1 85 (781 + 4 * ln)).toInt := hto.1
  have hto2 : (h.2.1 85 (781 + 4 * ln)).toInt ≤ 400 := hto.2
  obtain ⟨fr, efr⟩ : ∃ fr : Nat, (h.2.1 85 (780 + 4 * ln)).toInt = (fr : Int) := ⟨_, (Int.toNat_of_nonneg hfr1).symm⟩
  obtain ⟨to, eto⟩ : ∃ to : Nat, (h.2.1 85 (781 + 4 * ln)).toInt = (to : Int) := ⟨_, (Int.toNat_of_nonneg hto1).symm⟩
  rw [efr, eto] at d2
  rw [efr] at d1
  have d1 : dep fr = 0 := d1
  have hfin := bfn_fin (E := E) (tb := ctb) (c := sc344) (Vc := [(ln : Int), p, r, nb, cnt]) (h := h)
  have hfin : bFin E ctb sc344.2.1 h [(ln : Int), p, r, nb, cnt] (bQm E ctb sc344 [(ln : Int), p, r, nb, cnt] h) hlF := hfin
  have hr := bRS_0 (W := sc344.2.1) hI hP hT
  have hl0 : bLR [(ln : Int), p, r, nb, cnt, (fr : Int)] [some (.inr (.inl (.ref 84))), some (.inl (0, [(0, 1)])), some (.inl (0, [(1, 1)])), some (.inl (0, [(2, 1)])), some (.inl (0, [(3, 1)])), none, none, none, none, none, none, none] (zent 12 [.ref 84, .int a1, .int a2, .int a3, .int a4]) := ⟨⟨_, rfl, rfl⟩, ⟨_, rfl, a1, rfl, bxt_up1 x1⟩, ⟨_, rfl, a2, rfl, bxt_up1 x2⟩, ⟨_, rfl, a3, rfl, bxt_up1 x3⟩, ⟨_, rfl, a4, rfl, bxt_up1 x4⟩, trivial, trivial, trivial, trivial, trivial, trivial, trivial, trivial⟩
  have key := btz_s (V := [(ln : Int), p, r, nb, cnt, (fr : Int)]) (ls := zent 12 [.ref 84, .int a1, .int a2, .int a3, .int a4]) (by omega) hsm hfin ⟨[(fr : Int)], rfl⟩ rfl (bSS_of (E := E) hr (env := [(0, 11), (0, 7), (0, 11), (0, 1), (1, 12), (0, 400)]) (benv_c l0 u0 (benv_c l1 u1 (benv_c l2 u2 (benv_c l3 u3 (benv_c l4 u4 (benv_c (by omega) (by omega) benv_n)))))) rfl (fun C hC => absurd hC List.not_mem_nil) (by
    intro q hq
    cases hq with
    | head => exact hl_ov (v := 0) (i := 0) (vi := (ln : Int)) (k := 780 + 4 * ln) rfl (by omega) (q := 5) rfl efr
    | tail _ hq => exact absurd hq List.not_mem_nil)) hl0 hl_b (B' := B + 1000000 * 401) (by omega) (by
    intro N hN V' ls' h' hR d f hd hf
    cases hN with
    | tail _ hN => exact absurd hN List.not_mem_nil
    | head =>
      have hV := bNR_V hR rfl
      subst hV
      obtain ⟨-, k1, k2, -⟩ := hR
      have k3 := hlP_of k1 rfl rfl rfl rfl (brel_c _ 0) (brel_v (v := (fr : Int)) rfl)
      refine hl_loop (F := 1000000) (Nat.le_refl _) (fr := fr) (to := to) (dep := dep) (by omega) hsm hI hfin (by omega) ⟨l1, u1⟩ ⟨l2, u2⟩ ⟨l3, u3⟩ ⟨l4, u4⟩ eto (by omega) (fun i i1 i2 => d2 i (by omega) (by omega)) 400 fr ls' h' (by omega) (by omega) (Nat.le_refl _) (by omega) ?_ (bRS_of k2) d f hd (by omega)
      rw [d1]
      exact k3) d f hd (by omega)
  exact key
