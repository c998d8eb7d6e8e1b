set_option maxRecDepth 100000 in
theorem bcnd {c r : Bool} (h : cond c r false = true) : c = true ∧ r = true := by
  cases c
  · cases h
  · exact ⟨rfl, h⟩
abbrev bT : Type := List (Nat × Int)
abbrev bI : Type := Int × List (Nat × Int)
abbrev bE : Type := List (Int × Int)
abbrev bC : Type := List (Int × List (Nat × Int))
noncomputable def bfo (x : Int) (k : Int → Bool) : Bool := match x with
  | .ofNat n => afo n fun n => k (.ofNat n)
  | .negSucc n => afo n fun n => k (.negSucc n)
set_option maxRecDepth 100000 in
theorem bfo_eq (x : Int) (k : Int → Bool) : bfo x k = k x := by
  cases x with
  | ofNat n => exact afo_eq n (fun n => k (.ofNat n))
  | negSucc n => exact afo_eq n (fun n => k (.negSucc n))
def bLe (a b : Int) : Bool := match b - a with
  | .ofNat _ => true
  | .negSucc _ => false
set_option maxRecDepth 100000 in
theorem bLe_iff {a b : Int} : bLe a b = true ↔ a ≤ b := by
  unfold bLe
  cases h : b - a with
  | ofNat n =>
    simp only [true_iff]
    have : (Int.ofNat n : Int) = (n : Int) := rfl
    omega
  | negSucc n =>
    simp only [Bool.false_eq_true, false_iff]
    have : (Int.negSucc n : Int) = -((n : Int) + 1) := rfl
    omega
set_option maxRecDepth 100000 in
theorem bLe_no {a b : Int} (h : bLe a b = false) : b < a := by
  by_cases h1 : a ≤ b
  · rw [bLe_iff.mpr h1] at h; cases h
  · omega
def bz0 (c : Int) : Bool := match c with
  | .ofNat 0 => true
  | .ofNat (_ + 1) => false
  | .negSucc _ => false
set_option maxRecDepth 100000 in
theorem bz0_s {c : Int} (h : bz0 c = true) : c = 0 := by
  unfold bz0 at h
  split at h
  · rfl
  · cases h
  · cases h
def bev (V : List Int) : bT → Int → Prop
  | [], s => s = 0
  | q :: l, s => ∃ v t, zat V q.1 = some v ∧ bev V l t ∧ s = q.2 * v + t
def brel (V : List Int) (f : bI) (x : Int) : Prop := ∃ s, bev V f.2 s ∧ x = f.1 + s
def benv (V : List Int) (env : bE) : Prop := V.length = env.length ∧ ∀ i lo hi, zat env i = some (lo, hi) → ∃ v, zat V i = some v ∧ lo ≤ v ∧ v ≤ hi
def bcs (V : List Int) (cs : bC) : Prop := ∀ C, C ∈ cs → ∃ x, brel V C x ∧ 0 ≤ x
def bxt (V V' : List Int) : Prop := ∃ U, V' = V ++ U
set_option maxRecDepth 100000 in
theorem bxt_refl (V : List Int) : bxt V V := ⟨[], (List.append_nil V).symm⟩
set_option maxRecDepth 100000 in
theorem bxt_trans {V V' V9 : List Int} (h : bxt V V') (h' : bxt V' V9) : bxt V V9 := by
  obtain ⟨U, rfl⟩ := h
  obtain ⟨U', rfl⟩ := h'
  exact ⟨U ++ U', List.append_assoc V U U'⟩
set_option maxRecDepth 100000 in
theorem zat_up {α : Type} : ∀ {V U : List α} {i : Nat} {v : α}, zat V i = some v → zat (V ++ U) i = some v
  | [], _, _, _, h => nomatch h
  | _ :: _, _, 0, _, h => h
  | _ :: V, U, i + 1, v, h => zat_up (V := V) (U := U) (i := i) h
set_option maxRecDepth 100000 in
theorem bxt_at {V V' : List Int} {i : Nat} {v : Int} (h : bxt V V') (e : zat V i = some v) : zat V' i = some v := by
  obtain ⟨U, rfl⟩ := h
  exact zat_up e
set_option maxRecDepth 100000 in
theorem bev_up {V V' : List Int} (h : bxt V V') : ∀ {l : bT} {s : Int}, bev V l s → bev V' l s
  | [], _, e => e
  | _ :: l, _, ⟨v, t, h1, h2, h3⟩ => ⟨v, t, bxt_at h h1, bev_up h (l := l) h2, h3⟩
set_option maxRecDepth 100000 in
theorem bev_f {V : List Int} : ∀ {l : bT} {s t : Int}, bev V l s → bev V l t → s = t
  | [], _, _, e, e' => Eq.trans e (Eq.symm e')
  | _ :: l, s, t, ⟨v, a, h1, h2, h3⟩, ⟨v', a', h1', h2', h3'⟩ => by
    rw [h1] at h1'
    cases h1'
    rw [bev_f (l := l) h2 h2'] at h3
    rw [h3, h3']
set_option maxRecDepth 100000 in
theorem brel_up {V V' : List Int} (h : bxt V V') {f : bI} {x : Int} (e : brel V f x) : brel V' f x := by
  obtain ⟨s, h1, h2⟩ := e
  exact ⟨s, bev_up h h1, h2⟩
set_option maxRecDepth 100000 in
theorem brel_f {V : List Int} {f : bI} {x y : Int} (h : brel V f x) (h' : brel V f y) : x = y := by
  obtain ⟨s, h1, h2⟩ := h
  obtain ⟨s', h1', h2'⟩ := h'
  rw [bev_f h1 h1'] at h2
  rw [h2, h2']
set_option maxRecDepth 100000 in
theorem brel_c (V : List Int) (c : Int) : brel V (c, []) c := ⟨0, rfl, (Int.add_zero c).symm⟩
set_option maxRecDepth 100000 in
theorem brel_k {V : List Int} {c x : Int} (h : brel V (c, []) x) : x = c := brel_f h (brel_c V c)
set_option maxRecDepth 100000 in
theorem brel_v {V : List Int} {i : Nat} {v : Int} (h : zat V i = some v) : brel V (0, [(i, 1)]) v := ⟨v, ⟨v, 0, h, rfl, by show v = 1 * v + 0; omega⟩, by show v = 0 + v; omega⟩
set_option maxRecDepth 100000 in
theorem bcs_up {V V' : List Int} (h : bxt V V') {cs : bC} (e : bcs V cs) : bcs V' cs := fun C hC => by
  obtain ⟨x, h1, h2⟩ := e C hC
  exact ⟨x, brel_up h h1, h2⟩
noncomputable def brg (env : bE) (k : Int → Int → Bool) (l : bT) : Int → Int → Bool := List.rec (motive := fun _ => Int → Int → Bool) (fun lo hi => bfo lo fun lo => bfo hi fun hi => k lo hi)
  (fun q _ ih lo hi => match agt env q.1 with
    | some (a, b) => (match q.2 with
      | .ofNat _ => ih (lo + q.2 * a) (hi + q.2 * b)
      | .negSucc _ => ih (lo + q.2 * b) (hi + q.2 * a))
    | none => false) l
/-- what a bound above, b, of a form's value x says of each of its variables -/
def bnq (V : List Int) (env : bE) (l : bT) (d : Int) : Prop := ∀ q, q ∈ l → ∀ a b, zat env q.1 = some (a, b) → ∃ v, zat V q.1 = some v ∧ (q.2 = 1 → b - v ≤ d) ∧ (q.2 = -1 → v - a ≤ d)
set_option maxRecDepth 100000 in
theorem brg_s {V : List Int} {env : bE} (he : benv V env) {k : Int → Int → Bool} : ∀ {l : bT} {lo hi s : Int}, bev V l s → brg env k l lo hi = true → ∃ a b, a ≤ lo + s ∧ hi + s ≤ b ∧ bnq V env l (b - hi - s) ∧ k a b = true
  | [], lo, hi, s, h, e => by
    have h : s = 0 := h
    have e : (bfo lo fun lo => bfo hi fun hi => k lo hi) = true := e
    rw [bfo_eq, bfo_eq] at e
    refine ⟨lo, hi, by omega, by omega, ?_, e⟩
    intro q hq
    cases hq
  | (i, c) :: l, lo, hi, s, ⟨v, t, h1, h2, h3⟩, e => by
    have e : (match agt env i with
      | some (a, b) => (match (generalizing := false) c with
        | .ofNat _ => brg env k l (lo + c * a) (hi + c * b)
        | .negSucc _ => brg env k l (lo + c * b) (hi + c * a))
      | none => false) = true := e
    have h3 : s = c * v + t := h3
    have h1 : zat V i = some v := h1
    split at e
    · rename_i a b hz
      rw [agt_eq] at hz
      obtain ⟨v', h4, h5, h6⟩ := he.2 _ _ _ hz
      rw [h1] at h4
      cases h4
      cases c with
      | ofNat c =>
        have hc : (0 : Int) ≤ Int.ofNat c := Int.natCast_nonneg c
        have m1 := Int.mul_le_mul_of_nonneg_left h5 hc
        have m2 := Int.mul_le_mul_of_nonneg_left h6 hc
        obtain ⟨x, y, g1, g2, g3, g4⟩ := brg_s he (l := l) h2 e
        refine ⟨x, y, by omega, by omega, ?_, g4⟩
        intro q hq a' b' hz'
        cases hq with
        | head =>
          have hz' : zat env i = some (a', b') := hz'
          rw [hz] at hz'
          cases hz'
          refine ⟨v, h1, fun hq => ?_, fun hq => ?_⟩
          · have hq : Int.ofNat c = 1 := hq
            rw [hq] at m1 m2 h3 g2
            omega
          · have hq : Int.ofNat c = -1 := hq
            rw [hq] at hc
            omega
        | tail _ hq =>
          obtain ⟨u, u1, u2, u3⟩ := g3 q hq a' b' hz'
          exact ⟨u, u1, fun hq => by have := u2 hq; omega, fun hq => by have := u3 hq; omega⟩
      | negSucc c =>
        have hc : Int.negSucc c ≤ 0 := Int.le_of_lt (Int.negSucc_lt_zero c)
        have m1 := Int.mul_le_mul_of_nonpos_left hc h5
        have m2 := Int.mul_le_mul_of_nonpos_left hc h6
        obtain ⟨x, y, g1, g2, g3, g4⟩ := brg_s he (l := l) h2 e
        refine ⟨x, y, by omega, by omega, ?_, g4⟩
        intro q hq a' b' hz'
        cases hq with
        | head =>
          have hz' : zat env i = some (a', b') := hz'
          rw [hz] at hz'
          cases hz'
          refine ⟨v, h1, fun hq => ?_, fun hq => ?_⟩
          · have hq : Int.negSucc c = 1 := hq
            rw [hq] at hc
            omega
          · have hq : Int.negSucc c = -1 := hq
            rw [hq] at m1 m2 h3 g2
            omega
        | tail _ hq =>
          obtain ⟨u, u1, u2, u3⟩ := g3 q hq a' b' hz'
          exact ⟨u, u1, fun hq => by have := u2 hq; omega, fun hq => by have := u3 hq; omega⟩
    · cases e
set_option maxRecDepth 100000 in
theorem brgf_s {V : List Int} {env : bE} (he : benv V env) {k : Int → Int → Bool} {f : bI} {x : Int} (h : brel V f x) (e : brg env k f.2 f.1 f.1 = true) : ∃ a b, a ≤ x ∧ x ≤ b ∧ bnq V env f.2 (b - x) ∧ k a b = true := by
  obtain ⟨s, h1, h2⟩ := h
  obtain ⟨a, b, g1, g2, g3, g4⟩ := brg_s he h1 e
  refine ⟨a, b, by omega, by omega, ?_, g4⟩
  rw [show b - x = b - f.1 - s by omega]
  exact g3
noncomputable def bins (i : Nat) (a : Int) (l : bT) : (bT → Bool) → Bool := List.rec (motive := fun _ => (bT → Bool) → Bool) (fun k => k [(i, a)])
  (fun q t ih k => cond (Nat.beq q.1 i) (bfo (q.2 + a) fun c => cond (bz0 c) (k t) (k ((i, c) :: t)))
    (cond (Nat.blt i q.1) (k ((i, a) :: q :: t)) (ih fun r => k (q :: r)))) l
set_option maxRecDepth 100000 in
theorem bins_s {V : List Int} {i : Nat} {a v : Int} (hv : zat V i = some v) : ∀ {l : bT} {s : Int} {k : bT → Bool}, bev V l s → bins i a l k = true → ∃ r, bev V r (a * v + s) ∧ k r = true
  | [], s, k, h, e => ⟨[(i, a)], ⟨v, 0, hv, rfl, by
      have h : s = 0 := h
      rw [h]⟩, e⟩
  | (j, b) :: l, s, k, ⟨w, t, h1, h2, h3⟩, e => by
    have h1 : zat V j = some w := h1
    have h3 : s = b * w + t := h3
    have e : cond (Nat.beq j i) (bfo (b + a) fun c => cond (bz0 c) (k l) (k ((i, c) :: l)))
      (cond (Nat.blt i j) (k ((i, a) :: (j, b) :: l)) (bins i a l fun r => k ((j, b) :: r))) = true := e
    cases hb : Nat.beq j i with
    | true =>
      rw [hb, cond_true, bfo_eq] at e
      have hb := abq hb
      subst hb
      rw [hv] at h1
      cases h1
      have e9 : a * v + s = (b + a) * v + t := by rw [h3, Int.add_mul]; omega
      cases hc : bz0 (b + a) with
      | true =>
        rw [hc, cond_true] at e
        have hc := bz0_s hc
        rw [hc, Int.zero_mul, Int.zero_add] at e9
        rw [e9]
        exact ⟨l, h2, e⟩
      | false =>
        rw [hc, cond_false] at e
        exact ⟨(j, b + a) :: l, ⟨v, t, hv, h2, e9⟩, e⟩
    | false =>
      rw [hb, cond_false] at e
      cases hc : Nat.blt i j with
      | true =>
        rw [hc, cond_true] at e
        exact ⟨(i, a) :: (j, b) :: l, ⟨v, s, hv, ⟨w, t, h1, h2, h3⟩, rfl⟩, e⟩
      | false =>
        rw [hc, cond_false] at e
        obtain ⟨r, g1, g2⟩ := bins_s hv (l := l) (k := fun r => k ((j, b) :: r)) h2 e
        exact ⟨(j, b) :: r, ⟨w, a * v + t, h1, g1, by omega⟩, g2⟩
noncomputable def badd (m : Int) (l : bT) : bT → (bT → Bool) → Bool := List.rec (motive := fun _ => bT → (bT → Bool) → Bool) (fun acc k => k acc) (fun q _ ih acc k => bfo (m * q.2) fun c => bins q.1 c acc fun acc => ih acc k) l
set_option maxRecDepth 100000 in
theorem badd_s {V : List Int} {m : Int} : ∀ {l acc : bT} {s t : Int} {k : bT → Bool}, bev V l s → bev V acc t → badd m l acc k = true → ∃ r, bev V r (m * s + t) ∧ k r = true
  | [], acc, s, t, k, h, h', e => ⟨acc, by
      have h : s = 0 := h
      rw [h, Int.mul_zero, Int.zero_add]
      exact h', e⟩
  | (j, b) :: l, acc, s, t, k, ⟨w, u, h1, h2, h3⟩, h', e => by
    have h1 : zat V j = some w := h1
    have h3 : s = b * w + u := h3
    have e : (bfo (m * b) fun c => bins j c acc fun acc => badd m l acc k) = true := e
    rw [bfo_eq] at e
    obtain ⟨r, g1, g2⟩ := bins_s (k := fun acc => badd m l acc k) h1 h' e
    obtain ⟨r', g3, g4⟩ := badd_s (l := l) (k := k) h2 g1 g2
    refine ⟨r', ?_, g4⟩
    have e9 : m * s + t = m * u + (m * b * w + t) := by rw [h3, Int.mul_add, Int.mul_assoc]; omega
    rw [e9]
    exact g3
/-- f + m g -/
noncomputable def bsum (m : Int) (g f : bI) (k : bI → Bool) : Bool := badd m g.2 f.2 fun ts => bfo (f.1 + m * g.1) fun c => k (c, ts)
set_option maxRecDepth 100000 in
theorem bsum_s {V : List Int} {m : Int} {f g : bI} {x y : Int} {k : bI → Bool} (hf : brel V f x) (hg : brel V g y) (e : bsum m g f k = true) : ∃ r, brel V r (x + m * y) ∧ k r = true := by
  obtain ⟨s, h1, h2⟩ := hf
  obtain ⟨t, h3, h4⟩ := hg
  unfold bsum at e
  obtain ⟨r, g1, g2⟩ := badd_s (k := fun ts => bfo (f.1 + m * g.1) fun c => k (c, ts)) h3 h1 e
  simp only [bfo_eq] at g2
  refine ⟨_, ⟨m * t + s, g1, ?_⟩, g2⟩
  rw [h2, h4, Int.mul_add]
  show _ = f.1 + m * g.1 + _
  omega
noncomputable def bhas (i : Nat) (l : bT) : Bool := List.rec (motive := fun _ => Bool) false (fun q _ ih => cond (Nat.beq q.1 i) true ih) l
noncomputable def bshr (l m : bT) : Bool := List.rec (motive := fun _ => Bool) false (fun q _ ih => cond (bhas q.1 m) true ih) l
/-- is a form's value at least 0? -/
noncomputable def bchk (n : Nat) (env : bE) (cs : bC) : bI → Bool := Nat.rec (motive := fun _ => bI → Bool) (fun f => brg env (fun lo _ => bLe 0 lo) f.2 f.1 f.1)
  (fun _ ih f => cond (brg env (fun lo _ => bLe 0 lo) f.2 f.1 f.1) true (List.rec (motive := fun _ => Bool) false (fun C _ r => cond (bshr C.2 f.2) (cond (bsum (-1) C f ih) true r) r) cs)) n
set_option maxRecDepth 100000 in
theorem bchk_s {V : List Int} {env : bE} (he : benv V env) {cs : bC} (hc : bcs V cs) : ∀ {n : Nat} {f : bI} {x : Int}, brel V f x → bchk n env cs f = true → 0 ≤ x
  | 0, f, x, h, e => by
    obtain ⟨a, b, h1, h2, -, h3⟩ := brgf_s he h e
    have := bLe_iff.mp h3
    omega
  | n + 1, f, x, h, e => by
    have e : cond (brg env (fun lo _ => bLe 0 lo) f.2 f.1 f.1) true (List.rec (motive := fun _ => Bool) false (fun C _ r => cond (bshr C.2 f.2) (cond (bsum (-1) C f (bchk n env cs)) true r) r) cs) = true := e
    cases h0 : brg env (fun lo _ => bLe 0 lo) f.2 f.1 f.1 with
    | true =>
      obtain ⟨a, b, h1, h2, -, h3⟩ := brgf_s he h h0
      have := bLe_iff.mp h3
      omega
    | false =>
      rw [h0, cond_false] at e
      have key : ∀ ds : bC, (∀ C, C ∈ ds → C ∈ cs) → (List.rec (motive := fun _ => Bool) false (fun C _ r => cond (bshr C.2 f.2) (cond (bsum (-1) C f (bchk n env cs)) true r) r) ds : Bool) = true → 0 ≤ x := by
        intro ds
        induction ds with
        | nil => intro _ z; cases z
        | cons C ds ih =>
          intro hs e
          have e : cond (bshr C.2 f.2) (cond (bsum (-1) C f (bchk n env cs)) true (List.rec (motive := fun _ => Bool) false (fun C _ r => cond (bshr C.2 f.2) (cond (bsum (-1) C f (bchk n env cs)) true r) r) ds)) (List.rec (motive := fun _ => Bool) false (fun C _ r => cond (bshr C.2 f.2) (cond (bsum (-1) C f (bchk n env cs)) true r) r) ds) = true := e
          have hs' : ∀ C, C ∈ ds → C ∈ cs := fun C h => hs C (List.mem_cons_of_mem _ h)
          cases h1 : bshr C.2 f.2 with
          | false => rw [h1, cond_false] at e; exact ih hs' e
          | true =>
            rw [h1, cond_true] at e
            cases h2 : bsum (-1) C f (bchk n env cs) with
            | false => rw [h2, cond_false] at e; exact ih hs' e
            | true =>
              obtain ⟨y, h3, h4⟩ := hc C (hs C List.mem_cons_self)
              obtain ⟨r, h5, h6⟩ := bsum_s h h3 h2
              have := bchk_s he hc (n := n) h5 h6
              omega
      exact key cs (fun _ h => h) e
noncomputable def bset (env : bE) (i : Nat) (lo hi : Int) (k : bE → Bool) : Bool := bfo lo fun lo => bfo hi fun hi => asd (0, 0) i (lo, hi) env k
set_option maxRecDepth 100000 in
theorem bset_s {V : List Int} {env : bE} (he : benv V env) {i : Nat} {v lo hi : Int} (hv : zat V i = some v) (h1 : lo ≤ v) (h2 : v ≤ hi) {k : bE → Bool} (h : bset env i lo hi k = true) : ∃ env', benv V env' ∧ k env' = true := by
  unfold bset at h
  rw [bfo_eq, bfo_eq, asd_eq] at h
  refine ⟨_, ?_, h⟩
  have hlt : i < env.length := by
    rw [← he.1]
    exact zat_lt hv
  rw [asl_zset _ _ _ _ hlt]
  refine ⟨by rw [he.1, zset_eq, List.length_set], ?_⟩
  intro j a b hj
  rw [zat_zset _ _ _ _ hlt] at hj
  by_cases hji : j = i
  · rw [if_pos hji] at hj
    cases hj
    rw [hji]
    exact ⟨v, hv, h1, h2⟩
  · rw [if_neg hji] at hj
    exact he.2 _ _ _ hj
def bis1 (c : Int) : Bool := match c with
  | .ofNat 0 => false
  | .ofNat 1 => true
  | .ofNat (_ + 2) => false
  | .negSucc _ => false
def bism (c : Int) : Bool := match c with
  | .ofNat _ => false
  | .negSucc 0 => true
  | .negSucc (_ + 1) => false
set_option maxRecDepth 100000 in
theorem bis1_s {c : Int} (h : bis1 c = true) : c = 1 := by
  unfold bis1 at h
  split at h
  · cases h
  · rfl
  · cases h
  · cases h
set_option maxRecDepth 100000 in
theorem bism_s {c : Int} (h : bism c = true) : c = -1 := by
  unfold bism at h
  split at h
  · cases h
  · rfl
  · cases h
def bmx (a b : Int) : Int := cond (bLe a b) b a
def bmn (a b : Int) : Int := cond (bLe a b) a b
set_option maxRecDepth 100000 in
theorem bmx_le {a b v : Int} (h1 : a ≤ v) (h2 : b ≤ v) : bmx a b ≤ v := by
  unfold bmx
  cases bLe a b
  · exact h1
  · exact h2
set_option maxRecDepth 100000 in
theorem ble_mn {a b v : Int} (h1 : v ≤ a) (h2 : v ≤ b) : v ≤ bmn a b := by
  unfold bmn
  cases bLe a b
  · exact h2
  · exact h1
noncomputable def bnar (env0 : bE) (hi : Int) (l : bT) : bE → (bE → Bool) → Bool := List.rec (motive := fun _ => bE → (bE → Bool) → Bool) (fun env k => k env)
  (fun q _ ih env k => match agt env0 q.1, agt env q.1 with
    | some (a0, b0), some (a, b) => cond (bis1 q.2) (bset env q.1 (bmx a (b0 - hi)) b fun env => ih env k) (cond (bism q.2) (bset env q.1 a (bmn b (a0 + hi)) fun env => ih env k) (ih env k))
    | _, _ => false) l
set_option maxRecDepth 100000 in
theorem bnar_s {V : List Int} {env0 : bE} {hi : Int} : ∀ {l : bT} {env : bE} {k : bE → Bool}, bnq V env0 l hi → benv V env → bnar env0 hi l env k = true → ∃ env', benv V env' ∧ k env' = true
  | [], env, k, _, he, e => ⟨env, he, e⟩
  | q :: l, env, k, hq, he, e => by
    have e : (match agt env0 q.1, agt env q.1 with
      | some (a0, b0), some (a, b) => cond (bis1 q.2) (bset env q.1 (bmx a (b0 - hi)) b fun env => bnar env0 hi l env k) (cond (bism q.2) (bset env q.1 a (bmn b (a0 + hi)) fun env => bnar env0 hi l env k) (bnar env0 hi l env k))
      | _, _ => false) = true := e
    have hq' : bnq V env0 l hi := fun p hp => hq p (List.mem_cons_of_mem _ hp)
    split at e
    · rename_i a0 b0 a b hz0 hz
      rw [agt_eq] at hz0 hz
      obtain ⟨v, h1, h2, h3⟩ := hq q List.mem_cons_self _ _ hz0
      obtain ⟨v', h4, h5, h6⟩ := he.2 _ _ _ hz
      rw [h1] at h4
      cases h4
      cases hb : bis1 q.2 with
      | true =>
        rw [hb, cond_true] at e
        have := h2 (bis1_s hb)
        obtain ⟨env', g1, g2⟩ := bset_s he h1 (bmx_le h5 (by omega)) h6 e
        exact bnar_s (l := l) hq' g1 g2
      | false =>
        rw [hb, cond_false] at e
        cases hc : bism q.2 with
        | true =>
          rw [hc, cond_true] at e
          have := h3 (bism_s hc)
          obtain ⟨env', g1, g2⟩ := bset_s he h1 h5 (ble_mn h6 (by omega)) e
          exact bnar_s (l := l) hq' g1 g2
        | false =>
          rw [hc, cond_false] at e
          exact bnar_s (l := l) hq' he e
    · cases e
def btwo (l : bT) : Bool := match l with
  | [] => false
  | [_] => false
  | _ :: _ :: _ => true
noncomputable def bmd2 (a : Int) (l : bT) : (bT → Bool) → Bool := List.rec (motive := fun _ => (bT → Bool) → Bool) (fun k => k []) (fun q _ ih k => bfo (q.2 / a) fun c => cond (bz0 c) (ih k) (ih fun r => k ((q.1, c) :: r))) l
set_option maxRecDepth 100000 in
theorem bmd2_s {V : List Int} {a : Int} : ∀ {l : bT} {s : Int} {k : bT → Bool}, bev V l s → bmd2 a l k = true → ∃ r t, bev V r t ∧ k r = true
  | [], _, _, _, e => ⟨[], 0, rfl, e⟩
  | (i, b) :: l, s, k, ⟨v, t, h1, h2, h3⟩, e => by
    have e : (bfo (b / a) fun c => cond (bz0 c) (bmd2 a l k) (bmd2 a l fun r => k ((i, c) :: r))) = true := e
    rw [bfo_eq] at e
    cases hc : bz0 (b / a) with
    | true =>
      rw [hc, cond_true] at e
      exact bmd2_s (l := l) h2 e
    | false =>
      rw [hc, cond_false] at e
      obtain ⟨r, t', g1, g2⟩ := bmd2_s (l := l) h2 e
      exact ⟨(i, b / a) :: r, b / a * v + t', ⟨v, t', h1, g1, rfl⟩, g2⟩
def babs (c : Int) : Int := match c with
  | .ofNat n => .ofNat n
  | .negSucc n => .ofNat (n + 1)
set_option maxRecDepth 100000 in
theorem babs_s (c : Int) : 0 ≤ babs c := by
  cases c with
  | ofNat n => exact Int.natCast_nonneg n
  | negSucc n => exact Int.natCast_nonneg (n + 1)
/-- all coefficients by the first one, where that is whole -/
noncomputable def btg (C : bI) (k : bI → Bool) : Bool := match C.2 with
  | [] => k C
  | q :: _ => bfo (babs q.2) fun g => cond (bLe g 1) (k C) (bmd2 g C.2 fun ts => badd (-g) ts C.2 fun r => (match r with
    | [] => bfo (C.1 / g) fun c => k (c, ts)
    | _ :: _ => k C))
set_option maxRecDepth 100000 in
theorem btg_s {V : List Int} {C : bI} {x : Int} (hC : brel V C x) (h0 : 0 ≤ x) {k : bI → Bool} (e : btg C k = true) : ∃ D y, brel V D y ∧ 0 ≤ y ∧ k D = true := by
  unfold btg at e
  split at e
  · exact ⟨C, x, hC, h0, e⟩
  · rw [bfo_eq] at e
    rename_i q l hl
    cases h1 : bLe (babs q.2) 1 with
    | true =>
      rw [h1, cond_true] at e
      exact ⟨C, x, hC, h0, e⟩
    | false =>
      rw [h1, cond_false] at e
      have h1 := bLe_no h1
      obtain ⟨s, h2, h3⟩ := hC
      obtain ⟨ts, t, h4, e⟩ := bmd2_s h2 e
      obtain ⟨r, h5, e⟩ := badd_s h4 h2 e
      split at e
      · rw [bfo_eq] at e
        have h5 : -(babs q.2) * t + s = 0 := h5
        refine ⟨_, C.1 / babs q.2 + t, ⟨t, h4, rfl⟩, ?_, e⟩
        have h6 : -t ≤ C.1 / babs q.2 := by
          rw [Int.le_ediv_iff_mul_le (by omega)]
          rw [Int.neg_mul] at h5 ⊢
          rw [Int.mul_comm] at h5
          omega
        omega
      · exact ⟨C, x, ⟨s, h2, h3⟩, h0, e⟩
noncomputable def bas0 (env : bE) (cs : bC) (C : bI) (k : bE → bC → Bool) : Bool := brg env (fun lo hi => cond (bLe hi (-1)) true (cond (bLe 0 lo) (k env cs)
  (bsum (-1) C (-1, []) fun N => cond (bchk 1 env cs N) true (bnar env hi C.2 env fun env => cond (btwo C.2) (k env (C :: cs)) (k env cs))))) C.2 C.1 C.1
set_option maxRecDepth 100000 in
theorem bas0_s {V : List Int} {env : bE} {cs : bC} (he : benv V env) (hc : bcs V cs) {C : bI} {x : Int} (hC : brel V C x) (h0 : 0 ≤ x) {k : bE → bC → Bool} (e : bas0 env cs C k = true) : ∃ env' cs', benv V env' ∧ bcs V cs' ∧ k env' cs' = true := by
  unfold bas0 at e
  obtain ⟨a, b, h1, h2, h3, e⟩ := brgf_s he hC e
  cases g1 : bLe b (-1) with
  | true =>
    have := bLe_iff.mp g1
    omega
  | false =>
    rw [g1, cond_false] at e
    cases g2 : bLe 0 a with
    | true =>
      rw [g2, cond_true] at e
      exact ⟨env, cs, he, hc, e⟩
    | false =>
      rw [g2, cond_false] at e
      obtain ⟨N, h4, e⟩ := bsum_s (brel_c V (-1)) hC e
      cases g3 : bchk 1 env cs N with
      | true =>
        have := bchk_s he hc h4 g3
        omega
      | false =>
        rw [g3, cond_false] at e
        have h5 : bnq V env C.2 b := by
          intro q hq a' b' hz
          obtain ⟨v, h6, h7, h8⟩ := h3 q hq a' b' hz
          exact ⟨v, h6, fun hq => by have := h7 hq; omega, fun hq => by have := h8 hq; omega⟩
        obtain ⟨env', h6, e⟩ := bnar_s h5 he e
        cases g4 : btwo C.2 with
        | false =>
          rw [g4, cond_false] at e
          exact ⟨env', cs, h6, hc, e⟩
        | true =>
          rw [g4, cond_true] at e
          refine ⟨env', C :: cs, h6, ?_, e⟩
          intro D hD
          cases hD with
          | head => exact ⟨x, hC, h0⟩
          | tail _ hD => exact hc D hD
noncomputable def basm (env : bE) (cs : bC) (C : bI) (k : bE → bC → Bool) : Bool := btg C fun C => bas0 env cs C k
set_option maxRecDepth 100000 in
theorem basm_s {V : List Int} {env : bE} {cs : bC} (he : benv V env) (hc : bcs V cs) {C : bI} {x : Int} (hC : brel V C x) (h0 : 0 ≤ x) {k : bE → bC → Bool} (e : basm env cs C k = true) : ∃ env' cs', benv V env' ∧ bcs V cs' ∧ k env' cs' = true := by
  obtain ⟨D, y, h1, h2, e⟩ := btg_s hC h0 e
  exact bas0_s he hc h1 h2 e
