/-! segments: runs of the evaluator over sums, taken by hand -/
def nth (V : List Int) (i : Nat) : Int := match V, i with
  | [], _ => 0
  | v :: _, 0 => v
  | _ :: V, i + 1 => nth V i
def bvs (V : List Int) : List (Nat × Int) → Int
  | [] => 0
  | q :: l => q.2 * nth V q.1 + bvs V l
def bvx (V : List Int) (f : bI) : Int := f.1 + bvs V f.2
def bok (n : Nat) (l : List (Nat × Int)) : Bool := l.all fun q => Nat.blt q.1 n
set_option maxRecDepth 100000 in
theorem nth_s : ∀ {V : List Int} {i : Nat} {v : Int}, zat V i = some v → nth V i = v
  | [], _, _, h => nomatch h
  | a :: _, 0, _, h => by cases h; rfl
  | _ :: V, i + 1, v, h => nth_s (V := V) h
set_option maxRecDepth 100000 in
theorem nth_m : ∀ {V : List Int} {i : Nat}, i < V.length → zat V i = some (nth V i)
  | [], _, h => absurd h (Nat.not_lt_zero _)
  | a :: _, 0, _ => rfl
  | _ :: V, i + 1, h => nth_m (V := V) (Nat.lt_of_succ_lt_succ h)
set_option maxRecDepth 100000 in
theorem bev_x {V : List Int} : ∀ {l : List (Nat × Int)} {s : Int}, bev V l s → s = bvs V l
  | [], s, h => h
  | (i, a) :: l, s, h => by
    obtain ⟨v, r, h1, h2, h3⟩ := h
    show s = a * nth V i + bvs V l
    rw [nth_s h1, h3, bev_x h2]
set_option maxRecDepth 100000 in
theorem bev_m {V : List Int} : ∀ {l : List (Nat × Int)}, bok V.length l = true → bev V l (bvs V l)
  | [], _ => rfl
  | (i, a) :: l, h => by
    unfold bok at h
    rw [List.all_cons, Bool.and_eq_true] at h
    exact ⟨nth V i, bvs V l, nth_m (abl.mp h.1), bev_m h.2, rfl⟩
set_option maxRecDepth 100000 in
theorem brel_x {V : List Int} {f : bI} {x : Int} (h : brel V f x) : x = bvx V f := by
  obtain ⟨s, h1, h2⟩ := h
  unfold bvx
  rw [h2, bev_x h1]
set_option maxRecDepth 100000 in
theorem brel_m {V : List Int} {f : bI} (h : bok V.length f.2 = true) : brel V f (bvx V f) := ⟨bvs V f.2, bev_m h, rfl⟩
set_option maxRecDepth 100000 in
theorem brel_w {V : List Int} {f : bI} {x : Int} (h : bok V.length f.2 = true) (e : x = bvx V f) : brel V f x := by rw [e]; exact brel_m h
set_option maxRecDepth 100000 in
theorem bcs_n {V : List Int} : bcs V [] := fun C hC => absurd hC List.not_mem_nil
set_option maxRecDepth 100000 in
theorem bcs_c {V : List Int} {C : bI} {cs : bC} (h1 : bok V.length C.2 = true) (h2 : 0 ≤ bvx V C) (h : bcs V cs) : bcs V (C :: cs) := fun D hD => by
  cases hD with
  | head => exact ⟨_, brel_m h1, h2⟩
  | tail _ hD => exact h D hD
set_option maxRecDepth 100000 in
theorem bov_n {E : zE} {V : List Int} {h : zH} : bOV E V [] h := fun q hq => absurd hq List.not_mem_nil
set_option maxRecDepth 100000 in
theorem bov_c {E : zE} {V : List Int} {h : zH} {c k : Nat} {j f : bI} {ov : bO} (hc : Nat.blt c 900 = true) (h1 : bok V.length j.2 = true) (h2 : (k : Int) = bvx V j) (h3 : bok V.length f.2 = true) (h4 : (h.2.1 c k).toInt = bvx V f) (h5 : bOV E V ov h) : bOV E V ((c, j, f) :: ov) h := fun q hq => by
  cases hq with
  | head => exact ⟨k, brel_w h1 h2, by show brel V f (bvl E h c k); rw [bvl_n hc]; exact brel_w h3 h4⟩
  | tail _ hq => exact h5 q hq
set_option maxRecDepth 100000 in
theorem bpv_x {E : zE} {V : List Int} {h : zH} {l : bPv} {c k : Nat} {f : bI} (hp : bpv E V l h) (hc : Nat.blt c 900 = true) (hm : (c, k, f) ∈ l) : (h.2.1 c k).toInt = bvx V f := by
  have := brel_x (hp _ hm)
  rw [← this]
  exact (bvl_n hc).symm
set_option maxRecDepth 100000 in
theorem seg {E : zE} (hE : E.1 < 2147483648) {tb : bTb} {W : Nat} {h0 h : zH} {V : List Int} {B : Nat} {Q : Option zR → Prop} {sm : bSt9} {fin : bS → Option bV → Bool} {D MI F nv : Nat} {L : List bNd} {env : bE} {cs : bC} {ov : bO} {pc : Nat} {al : bLs} {ls : zLs} {ca sa : Nat}
    (hsm : bSO E tb B sm) (hfin : bFin E tb W h0 V Q fin) (hr : bRQ tb W h0 ca sa h) (hv : benv V env) (hn : nv = V.length) (hcs : bcs V cs) (hov : bOV E V ov h) (hl : bLR V al ls)
    (e : btz W sm tb fin D MI F nv L (nv, env, cs, ov, ((ca : Int), []), ((sa : Int), [])) pc al = true) {B' : Nat} (hB : B ≤ B')
    (hN : ∀ N, N ∈ L → N.2.2.1.length = nv ∧ N.2.2.2.2.2.1 = ((ca : Int), []) ∧ N.2.2.2.2.2.2.1 = ((sa : Int), []))
    (hL : ∀ N, N ∈ L → ∀ ls' h', bLR V N.2.1 ls' → bRQ tb W h0 ca sa h' → bpv E V N.2.2.2.2.1 h' → ∀ d f, D ≤ d → B' ≤ f → Q (zex E f d MI N.1 ls' [] h')) : ∀ d f, D ≤ d → B' + F ≤ f → Q (zex E f d MI pc ls [] h) := by
  refine btz_s (V := V) (V0 := V) hE hsm hfin (bxt_refl V) hn.symm (bSS_ofQ hr hv hn hcs hov) hl e hB ?_
  intro N hm V' ls' h' hR d f hd hf
  obtain ⟨n1, n2, n3⟩ := hN N hm
  have hV := bNR_V hR (n1.trans hn)
  subst hV
  obtain ⟨-, k1, k2, k3⟩ := hR
  rw [n2, n3] at k2
  exact hL N hm ls' h' k1 (bRQ_of k2) k3 d f hd hf
set_option maxRecDepth 100000 in
theorem fin_n {E : zE} {tb : bTb} {W : Nat} {h0 : zH} {V : List Int} {ca sa nv : Nat} {Q : Option zR → Prop} {rt : Option bV} {pov : bPv} (hn : nv = V.length) (hQ : ∀ v h', bRQ tb W h0 ca sa h' → boV V rt v → bpv E V pov h' → Q (some (.inl v, h'))) : bFin E tb W h0 V Q (bfn ca sa nv (bidl nv 0) [([], [], rt, pov)]) := by
  intro V' S v w h' hx hS hv e
  obtain ⟨p, h1, h2⟩ := bfn_s e
  rw [hn] at h2
  obtain ⟨h3, h4, h5⟩ := bpm_s hx hS hv h2
  cases h1 with
  | tail _ h1 => exact absurd h1 List.not_mem_nil
  | head =>
    obtain ⟨U, u1, u2, u3, u4⟩ := h5
    cases benv_0 u1
    rw [List.append_nil] at u3 u4
    exact hQ w h' ⟨hS.2.2.2.2.1, hS.2.2.2.2.2.1, hS.2.2.2.2.2.2.1, hS.2.2.2.2.2.2.2.1, h3, h4⟩ u3 u4
/-! texts -/
def isBl (x : Int) : Bool := decide (x = 32)
def isDg (x : Int) : Bool := decide (48 ≤ x) && decide (x ≤ 57)
def isLt (x : Int) : Bool := decide (97 ≤ x) && decide (x ≤ 122)
def skn (P : Int → Bool) (T : Nat → Int) (L : Nat) : Nat → Nat → Nat
  | 0, q => q
  | n + 1, q => if q < L then (if P (T q) = true then skn P T L n (q + 1) else q) else q
/-- the first place from q on that isn't so, or the end -/
def sk (P : Int → Bool) (T : Nat → Int) (L q : Nat) : Nat := skn P T L (L - q) q
set_option maxRecDepth 100000 in
theorem sk_s {P : Int → Bool} {T : Nat → Int} {L q : Nat} (hq : q < L) (hp : P (T q) = true) : sk P T L q = sk P T L (q + 1) := by
  unfold sk
  rw [show L - q = (L - (q + 1)) + 1 by omega]
  show (if q < L then (if P (T q) = true then skn P T L (L - (q + 1)) (q + 1) else q) else q) = _
  rw [if_pos hq, if_pos hp]
set_option maxRecDepth 100000 in
theorem sk_e {P : Int → Bool} {T : Nat → Int} {L q : Nat} (h : q < L → P (T q) = false) : sk P T L q = q := by
  unfold sk
  cases hn : L - q with
  | zero => rfl
  | succ n =>
    show (if q < L then (if P (T q) = true then skn P T L n (q + 1) else q) else q) = q
    rw [if_pos (by omega), h (by omega)]
    rfl
set_option maxRecDepth 100000 in
theorem skn_b {P : Int → Bool} {T : Nat → Int} {L : Nat} : ∀ n q, q ≤ skn P T L n q ∧ (q ≤ L → skn P T L n q ≤ L)
  | 0, q => ⟨Nat.le_refl _, fun h => h⟩
  | n + 1, q => by
    show q ≤ (if q < L then (if P (T q) = true then skn P T L n (q + 1) else q) else q) ∧ (q ≤ L → (if q < L then (if P (T q) = true then skn P T L n (q + 1) else q) else q) ≤ L)
    by_cases h1 : q < L
    · rw [if_pos h1]
      by_cases h2 : P (T q) = true
      · rw [if_pos h2]
        have := skn_b (P := P) (T := T) (L := L) n (q + 1)
        exact ⟨by omega, fun _ => this.2 (by omega)⟩
      · rw [if_neg h2]
        exact ⟨Nat.le_refl _, fun h => h⟩
    · rw [if_neg h1]
      exact ⟨Nat.le_refl _, fun h => h⟩
set_option maxRecDepth 100000 in
theorem sk_ge {P : Int → Bool} {T : Nat → Int} {L q : Nat} : q ≤ sk P T L q := (skn_b _ _).1
set_option maxRecDepth 100000 in
theorem sk_le {P : Int → Bool} {T : Nat → Int} {L q : Nat} (h : q ≤ L) : sk P T L q ≤ L := (skn_b _ _).2 h
