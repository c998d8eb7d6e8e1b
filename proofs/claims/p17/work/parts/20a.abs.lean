abbrev aV : Type := Nat ⊕ Value
abbrev aLs : Type := List (Option aV)
abbrev aSt : Type := List aV
abbrev aEn : Type := List (Nat × Nat)
abbrev aT : Type := List (List (List (List Nat)))
abbrev aHp : Type := List (List (zS × aT)) × Option (Nat × (Nat → Nat → Int64) × Nat × Nat)
abbrev aFm : Type := Nat × Nat × Nat × Nat × aLs × aSt × Bool × Nat × Nat
abbrev aF : Type := Nat → aEn → List aFm → Nat → Nat → Nat → aLs → aSt → aHp → Bool
def afo (c : Nat) (k : Nat → Bool) : Bool := match c with
  | 0 => k 0
  | n + 1 => k (n + 1)
set_option maxRecDepth 100000 in
theorem afo_eq (c : Nat) (k : Nat → Bool) : afo c k = k c := by cases c <;> rfl
noncomputable def agt {α : Type} (l : List α) : Nat → Option α := List.rec (motive := fun _ => Nat → Option α) (fun _ => none) (fun a _ ih n => Nat.rec (motive := fun _ => Option α) (some a) (fun m _ => ih m) n) l
set_option maxRecDepth 100000 in
theorem agt_eq {α : Type} : ∀ (l : List α) (n : Nat), agt l n = zat l n
  | [], _ => rfl
  | _ :: _, 0 => rfl
  | _ :: l, n + 1 => agt_eq l n
noncomputable def agd {α : Type} (d : α) (l : List α) : Nat → α := List.rec (motive := fun _ => Nat → α) (fun _ => d) (fun a _ ih n => Nat.rec (motive := fun _ => α) a (fun m _ => ih m) n) l
noncomputable def asd {α : Type} (d : α) (n : Nat) (x : α) : List α → (List α → Bool) → Bool := Nat.rec (motive := fun _ => List α → (List α → Bool) → Bool)
  (fun l k => List.rec (motive := fun _ => Bool) (k [x]) (fun _ t _ => k (x :: t)) l)
  (fun _ ih l k => List.rec (motive := fun _ => Bool) (ih [] fun r => k (d :: r)) (fun a t _ => ih t fun r => k (a :: r)) l) n
def asl {α : Type} (d : α) : Nat → α → List α → List α
  | 0, x, [] => [x]
  | 0, x, _ :: t => x :: t
  | n + 1, x, [] => d :: asl d n x []
  | n + 1, x, a :: t => a :: asl d n x t
set_option maxRecDepth 100000 in
theorem asd_eq {α : Type} (d : α) (x : α) : ∀ (n : Nat) (l : List α) (k : List α → Bool), asd d n x l k = k (asl d n x l)
  | 0, [], _ => rfl
  | 0, _ :: _, _ => rfl
  | n + 1, [], k => asd_eq d x n [] (fun r => k (d :: r))
  | n + 1, a :: t, k => asd_eq d x n t (fun r => k (a :: r))
set_option maxRecDepth 100000 in
theorem agd_asl {α : Type} (d : α) (x : α) : ∀ (n : Nat) (l : List α) (j : Nat), agd d (asl d n x l) j = if j = n then x else agd d l j
  | 0, [], 0 => rfl
  | 0, [], j + 1 => rfl
  | 0, _ :: _, 0 => rfl
  | 0, _ :: _, j + 1 => rfl
  | n + 1, [], 0 => rfl
  | n + 1, [], j + 1 => by
    have := agd_asl d x n [] j
    show agd d (asl d n x []) j = _
    rw [this]
    by_cases hj : j = n
    · rw [if_pos hj, if_pos (by omega)]
    · rw [if_neg hj, if_neg (by omega)]
      rfl
  | n + 1, a :: t, 0 => rfl
  | n + 1, a :: t, j + 1 => by
    have := agd_asl d x n t j
    show agd d (asl d n x t) j = _
    rw [this]
    by_cases hj : j = n
    · rw [if_pos hj, if_pos (by omega)]
    · rw [if_neg hj, if_neg (by omega)]
      rfl
set_option maxRecDepth 100000 in
theorem asl_zset {α : Type} (d : α) (x : α) : ∀ (n : Nat) (l : List α), n < l.length → asl d n x l = zset l n x
  | _, [], h => absurd h (Nat.not_lt_zero _)
  | 0, _ :: _, _ => rfl
  | n + 1, a :: t, h => congrArg (a :: ·) (asl_zset d x n t (Nat.lt_of_succ_lt_succ h))
set_option maxRecDepth 100000 in
theorem asl_app {α : Type} (d : α) (x : α) : ∀ (l : List α), asl d l.length x l = l ++ [x]
  | [] => rfl
  | a :: t => congrArg (a :: ·) (asl_app d x t)
set_option maxRecDepth 100000 in
theorem zat_lt {α : Type} : ∀ {l : List α} {n : Nat} {x : α}, zat l n = some x → n < l.length
  | [], _, _, h => nomatch h
  | _ :: _, 0, _, _ => Nat.succ_pos _
  | _ :: _, n + 1, _, h => Nat.succ_lt_succ (zat_lt h)
set_option maxRecDepth 100000 in
theorem zat_zset {α : Type} : ∀ (l : List α) (n : Nat) (x : α) (j : Nat), n < l.length → zat (zset l n x) j = if j = n then some x else zat l j
  | [], _, _, _, h => absurd h (Nat.not_lt_zero _)
  | _ :: _, 0, _, 0, _ => rfl
  | _ :: _, 0, _, j + 1, _ => rfl
  | _ :: _, n + 1, _, 0, _ => rfl
  | _ :: l, n + 1, x, j + 1, h => by
    have := zat_zset l n x j (Nat.lt_of_succ_lt_succ h)
    show zat (zset l n x) j = _
    rw [this]
    by_cases hj : j = n
    · rw [if_pos hj, if_pos (by omega)]
    · rw [if_neg hj, if_neg (by omega)]
      rfl
set_option maxRecDepth 100000 in
theorem zat_app {α : Type} : ∀ (l : List α) (x : α) (j : Nat), zat (l ++ [x]) j = if j = l.length then some x else zat l j
  | [], _, 0 => rfl
  | [], _, j + 1 => rfl
  | _ :: _, _, 0 => rfl
  | _ :: l, x, j + 1 => by
    have := zat_app l x j
    show zat (l ++ [x]) j = _
    rw [this]
    by_cases hj : j = l.length
    · rw [if_pos hj, if_pos (by simp [hj])]
    · rw [if_neg hj, if_neg (by simp only [List.length_cons]; omega)]
      rfl
def azb (c : Nat) : Int32 := Int32.ofInt ((c : Int) - 2147483648)
def aze (x : Int32) : Nat := (x.toInt + 2147483648).toNat
def arel (V : Nat → Int32) (c : Nat) (x : Int32) : Prop := (c < 4294967296 → x.toInt + 2147483648 = (c : Int)) ∧ (4294967296 ≤ c → c < 1152921504606846976 → x = V (c / 4294967296 - 1))
def aenv (V : Nat → Int32) (env : aEn) : Prop := ∀ i lo hi, zat env i = some (lo, hi) → (lo : Int) ≤ (V i).toInt + 2147483648 ∧ (V i).toInt + 2147483648 ≤ (hi : Int)
set_option maxRecDepth 100000 in
theorem alo (x : Int32) : 0 ≤ x.toInt + 2147483648 ∧ x.toInt + 2147483648 < 4294967296 := by
  have h1 := x.le_toInt
  have h2 := x.toInt_lt
  omega
set_option maxRecDepth 100000 in
theorem arel_top (V : Nat → Int32) (x : Int32) : arel V 1152921504606846976 x := ⟨fun h => absurd h (by decide), fun _ h => absurd h (by decide)⟩
set_option maxRecDepth 100000 in
theorem arel_of {V : Nat → Int32} {c : Nat} {x : Int32} (h : x.toInt + 2147483648 = (c : Int)) : arel V c x := ⟨fun _ => h, fun h1 => by have := alo x; omega⟩
set_option maxRecDepth 100000 in
theorem arel_enc (V : Nat → Int32) (x : Int32) : arel V (aze x) x := arel_of (by have := alo x; unfold aze; omega)
set_option maxRecDepth 100000 in
theorem azb_of {c : Nat} {x : Int32} (h : x.toInt + 2147483648 = (c : Int)) : azb c = x := by
  unfold azb
  rw [← h, show x.toInt + 2147483648 - 2147483648 = x.toInt by omega]
  exact Int32.ofInt_toInt x
set_option maxRecDepth 100000 in
theorem arel_eq {V : Nat → Int32} {c : Nat} {x y : Int32} (h : arel V c x) (hc : c < 4294967296) (k : arel V c y) : x = y := Int32.toInt_inj.mp (by have := h.1 hc; have := k.1 hc; omega)
set_option maxRecDepth 100000 in
theorem arel_var (V : Nat → Int32) {i : Nat} (hi : i < 268435455) : arel V (4294967296 * (i + 1)) (V i) := by
  refine ⟨fun h => by omega, fun _ _ => ?_⟩
  rw [Nat.mul_div_cancel_left _ (by decide)]
  rfl
def aOK (E : zE) (V : Nat → Int32) : Prop := (∀ i, i < 6 → V i = E.2 i) ∧ V 6 = E.2 0 &&& 63
noncomputable def ares (env : aEn) (c : Nat) (k : Nat → Bool) : Bool := cond (Nat.blt c 4294967296) (k c) (cond (Nat.blt c 1152921504606846976) (match agt env (c / 4294967296 - 1) with
  | some (lo, hi) => cond (Nat.beq lo hi) (k lo) (k c)
  | none => k c) (k c))
set_option maxRecDepth 100000 in
theorem abl {a b : Nat} : Nat.blt a b = true ↔ a < b := ⟨fun h => Nat.le_of_ble_eq_true h, fun h => Nat.ble_eq_true_of_le h⟩
set_option maxRecDepth 100000 in
theorem abl0 {a b : Nat} (h : Nat.blt a b = false) : b ≤ a := by
  by_cases h1 : a < b
  · rw [abl.mpr h1] at h; cases h
  · omega
set_option maxRecDepth 100000 in
theorem abe {a b : Nat} : Nat.ble a b = true ↔ a ≤ b := ⟨fun h => Nat.le_of_ble_eq_true h, fun h => Nat.ble_eq_true_of_le h⟩
set_option maxRecDepth 100000 in
theorem abe0 {a b : Nat} (h : Nat.ble a b = false) : b < a := by
  by_cases h1 : a ≤ b
  · rw [abe.mpr h1] at h; cases h
  · omega
set_option maxRecDepth 100000 in
theorem abq {a b : Nat} (h : Nat.beq a b = true) : a = b := Nat.eq_of_beq_eq_true h
set_option maxRecDepth 100000 in
theorem abq0 {a b : Nat} (h : Nat.beq a b = false) : a ≠ b := Nat.ne_of_beq_eq_false h
set_option maxRecDepth 100000 in
theorem ares_s {V : Nat → Int32} {env : aEn} (he : aenv V env) {c : Nat} {x : Int32} (hr : arel V c x) {k : Nat → Bool} (h : ares env c k = true) : ∃ c', arel V c' x ∧ k c' = true := by
  unfold ares at h
  cases h1 : Nat.blt c 4294967296 with
  | true => rw [h1] at h; exact ⟨c, hr, h⟩
  | false =>
    rw [h1] at h
    cases h2 : Nat.blt c 1152921504606846976 with
    | false => rw [h2] at h; exact ⟨c, hr, h⟩
    | true =>
      rw [h2] at h
      simp only [cond_true, cond_false] at h
      split at h
      · rename_i lo hi hz
        cases h3 : Nat.beq lo hi with
        | false => rw [h3] at h; exact ⟨c, hr, h⟩
        | true =>
          rw [h3] at h
          rw [agt_eq] at hz
          have h4 := he _ _ _ hz
          have h5 := abq h3
          have h6 := hr.2 (abl0 h1) (abl.mp h2)
          subst h5
          refine ⟨lo, arel_of ?_, h⟩
          rw [h6]
          omega
      · exact ⟨c, hr, h⟩
noncomputable def aset (env : aEn) (i lo hi : Nat) (k : aEn → Bool) : Bool := afo lo fun lo => afo hi fun hi => asd (0, 4294967296) i (lo, hi) env k
set_option maxRecDepth 100000 in
theorem aset_s {V : Nat → Int32} {env : aEn} (he : aenv V env) {i lo hi : Nat} (h1 : (lo : Int) ≤ (V i).toInt + 2147483648) (h2 : (V i).toInt + 2147483648 ≤ (hi : Int)) {l0 h0 : Nat} (hz : agt env i = some (l0, h0)) {k : aEn → Bool} (h : aset env i lo hi k = true) : ∃ env', aenv V env' ∧ k env' = true := by
  unfold aset at h
  rw [afo_eq, afo_eq, asd_eq] at h
  refine ⟨_, ?_, h⟩
  rw [agt_eq] at hz
  have hlt := zat_lt hz
  rw [asl_zset _ _ _ _ hlt]
  intro j a b hj
  rw [zat_zset _ _ _ _ hlt] at hj
  by_cases hji : j = i
  · rw [if_pos hji] at hj
    cases hj
    rw [hji]
    exact ⟨h1, h2⟩
  · rw [if_neg hji] at hj
    exact he _ _ _ hj
noncomputable def avar (env : aEn) (c : Nat) (d : Bool) (k : Nat → Nat → Nat → Bool) : Bool := cond (Nat.blt c 1152921504606846976) (match agt env (c / 4294967296 - 1) with
  | some (lo, hi) => k (c / 4294967296 - 1) lo hi
  | none => d) d
set_option maxRecDepth 100000 in
theorem avar_s {env : aEn} {c : Nat} {d : Bool} {k : Nat → Nat → Nat → Bool} (h : avar env c d k = true) : d = true ∨ ∃ lo hi, agt env (c / 4294967296 - 1) = some (lo, hi) ∧ c < 1152921504606846976 ∧ k (c / 4294967296 - 1) lo hi = true := by
  unfold avar at h
  cases h2 : Nat.blt c 1152921504606846976 with
  | false => rw [h2] at h; exact Or.inl h
  | true =>
    rw [h2] at h
    simp only [cond_true] at h
    split at h
    · rename_i lo hi hz
      exact Or.inr ⟨lo, hi, hz, abl.mp h2, h⟩
    · exact Or.inl h
noncomputable def alt (env : aEn) (x y : Nat) (kt kf : aEn → Bool) : Bool :=
  cond (Nat.blt x 4294967296)
    (cond (Nat.blt y 4294967296) (cond (Nat.blt x y) (kt env) (kf env))
      (avar env y (kt env && kf env) fun i lo hi => cond (Nat.blt x hi) (aset env i (cond (Nat.ble lo x) (x + 1) lo) hi kt) true && cond (Nat.ble lo x) (aset env i lo (cond (Nat.ble hi x) hi x) kf) true))
    (cond (Nat.blt y 4294967296)
      (avar env x (kt env && kf env) fun i lo hi => cond (Nat.blt lo y) (aset env i lo (cond (Nat.blt hi y) hi (y - 1)) kt) true && cond (Nat.ble y hi) (aset env i (cond (Nat.ble y lo) lo y) hi kf) true)
      (kt env && kf env))
set_option maxRecDepth 100000 in
theorem alt_s {V : Nat → Int32} {env : aEn} (he : aenv V env) {cx cy : Nat} {x y : Int32} (hx : arel V cx x) (hy : arel V cy y) {kt kf : aEn → Bool} (h : alt env cx cy kt kf = true) : (x < y → ∃ env', aenv V env' ∧ kt env' = true) ∧ (¬ x < y → ∃ env', aenv V env' ∧ kf env' = true) := by
  have hb : ∀ {P : Prop}, (kt env && kf env) = true → (P → ∃ env', aenv V env' ∧ kt env' = true) ∧ (¬ P → ∃ env', aenv V env' ∧ kf env' = true) := by
    intro P hh
    rw [Bool.and_eq_true] at hh
    exact ⟨fun _ => ⟨env, he, hh.1⟩, fun _ => ⟨env, he, hh.2⟩⟩
  rw [Int32.lt_iff_toInt_lt]
  unfold alt at h
  have lx := alo x
  have ly := alo y
  cases h1 : Nat.blt cx 4294967296 with
  | true =>
    have e1 := hx.1 (abl.mp h1)
    rw [h1] at h
    cases h2 : Nat.blt cy 4294967296 with
    | true =>
      have e2 := hy.1 (abl.mp h2)
      rw [h2] at h
      cases h3 : Nat.blt cx cy with
      | true =>
        have e3 := abl.mp h3
        rw [h3] at h
        exact ⟨fun _ => ⟨env, he, h⟩, fun hn => by omega⟩
      | false =>
        have e3 := abl0 h3
        rw [h3] at h
        exact ⟨fun hn => by omega, fun _ => ⟨env, he, h⟩⟩
    | false =>
      rw [h2] at h
      simp only [cond_true, cond_false] at h
      rcases avar_s h with h | ⟨lo, hi, hz, hc, h⟩
      · exact hb h
      · have e2 := hy.2 (abl0 h2) hc
        rw [agt_eq] at hz
        have e3 := he _ _ _ hz
        rw [← agt_eq] at hz
        rw [← e2] at e3
        rw [Bool.and_eq_true] at h
        constructor
        · intro hlt
          have h4 := h.1
          rw [abl.mpr (show cx < hi by omega)] at h4
          refine aset_s he ?_ ?_ hz h4
          · rw [← e2]
            cases h5 : Nat.ble lo cx with
            | true => simp only [cond_true]; omega
            | false => simp only [cond_false]; omega
          · rw [← e2]; omega
        · intro hlt
          have h4 := h.2
          have h6 : Nat.ble lo cx = true := abe.mpr (by omega)
          rw [h6] at h4
          refine aset_s he ?_ ?_ hz h4
          · rw [← e2]; omega
          · rw [← e2]
            cases h5 : Nat.ble hi cx with
            | true => simp only [cond_true]; omega
            | false => simp only [cond_false]; omega
  | false =>
    rw [h1] at h
    cases h2 : Nat.blt cy 4294967296 with
    | false =>
      rw [h2] at h
      exact hb h
    | true =>
      rw [h2] at h
      have e2 := hy.1 (abl.mp h2)
      simp only [cond_true, cond_false] at h
      rcases avar_s h with h | ⟨lo, hi, hz, hc, h⟩
      · exact hb h
      · have e1 := hx.2 (abl0 h1) hc
        rw [agt_eq] at hz
        have e3 := he _ _ _ hz
        rw [← agt_eq] at hz
        rw [← e1] at e3
        rw [Bool.and_eq_true] at h
        constructor
        · intro hlt
          have h4 := h.1
          rw [abl.mpr (show lo < cy by omega)] at h4
          refine aset_s he ?_ ?_ hz h4
          · rw [← e1]; omega
          · rw [← e1]
            cases h5 : Nat.blt hi cy with
            | true => simp only [cond_true]; omega
            | false => simp only [cond_false]; omega
        · intro hlt
          have h4 := h.2
          rw [abe.mpr (show cy ≤ hi by omega)] at h4
          refine aset_s he ?_ ?_ hz h4
          · rw [← e1]
            cases h5 : Nat.ble cy lo with
            | true => simp only [cond_true]; omega
            | false => simp only [cond_false]; omega
          · rw [← e1]; omega
noncomputable def aeqv (env : aEn) (i lo hi c : Nat) (kt kf : aEn → Bool) : Bool :=
  cond (Nat.ble lo c && Nat.ble c hi) (aset env i c c kt && cond (Nat.beq lo c) (cond (Nat.blt c hi) (aset env i (c + 1) hi kf) true) (cond (Nat.beq hi c) (aset env i lo (c - 1) kf) (aset env i lo (c - 1) kf && aset env i (c + 1) hi kf))) (kf env)
noncomputable def aeq (env : aEn) (x y : Nat) (kt kf : aEn → Bool) : Bool :=
  cond (Nat.blt x 4294967296)
    (cond (Nat.blt y 4294967296) (cond (Nat.beq x y) (kt env) (kf env)) (avar env y (kt env && kf env) fun i lo hi => aeqv env i lo hi x kt kf))
    (cond (Nat.blt y 4294967296) (avar env x (kt env && kf env) fun i lo hi => aeqv env i lo hi y kt kf) (kt env && kf env))
set_option maxRecDepth 100000 in
theorem aeqv_s {V : Nat → Int32} {env : aEn} (he : aenv V env) {i lo hi c : Nat} (hz : agt env i = some (lo, hi)) {kt kf : aEn → Bool} (h : aeqv env i lo hi c kt kf = true) : ((V i).toInt + 2147483648 = (c : Int) → ∃ env', aenv V env' ∧ kt env' = true) ∧ (¬ ((V i).toInt + 2147483648 = (c : Int)) → ∃ env', aenv V env' ∧ kf env' = true) := by
  have e3 := he _ _ _ (by rw [← agt_eq]; exact hz)
  unfold aeqv at h
  cases h1 : (Nat.ble lo c && Nat.ble c hi) with
  | false =>
    rw [h1] at h
    refine ⟨fun hn => ?_, fun _ => ⟨env, he, h⟩⟩
    rw [abe.mpr (show lo ≤ c by omega), abe.mpr (show c ≤ hi by omega)] at h1
    cases h1
  | true =>
    rw [h1] at h
    simp only [cond_true, Bool.and_eq_true] at h
    rw [Bool.and_eq_true, abe, abe] at h1
    constructor
    · intro hn
      exact aset_s he (by omega) (by omega) hz h.1
    · intro hn
      have h4 := h.2
      cases h5 : Nat.beq lo c with
      | true =>
        have h6 := abq h5
        rw [h5] at h4
        rw [abl.mpr (show c < hi by omega)] at h4
        simp only [cond_true] at h4
        exact aset_s he (by omega) (by omega) hz h4
      | false =>
        rw [h5] at h4
        cases h7 : Nat.beq hi c with
        | true =>
          have h8 := abq h7
          have h9 := abq0 h5
          rw [h7] at h4
          exact aset_s he (by omega) (by omega) hz h4
        | false =>
          have h8 := abq0 h7
          have h9 := abq0 h5
          rw [h7] at h4
          simp only [cond_false, Bool.and_eq_true] at h4
          by_cases h10 : (V i).toInt + 2147483648 < (c : Int)
          · exact aset_s he (by omega) (by omega) hz h4.1
          · exact aset_s he (by omega) (by omega) hz h4.2
set_option maxRecDepth 100000 in
theorem aeq_s {V : Nat → Int32} {env : aEn} (he : aenv V env) {cx cy : Nat} {x y : Int32} (hx : arel V cx x) (hy : arel V cy y) {kt kf : aEn → Bool} (h : aeq env cx cy kt kf = true) : (x = y → ∃ env', aenv V env' ∧ kt env' = true) ∧ (¬ x = y → ∃ env', aenv V env' ∧ kf env' = true) := by
  have hb : ∀ {P : Prop}, (kt env && kf env) = true → (P → ∃ env', aenv V env' ∧ kt env' = true) ∧ (¬ P → ∃ env', aenv V env' ∧ kf env' = true) := by
    intro P hh
    rw [Bool.and_eq_true] at hh
    exact ⟨fun _ => ⟨env, he, hh.1⟩, fun _ => ⟨env, he, hh.2⟩⟩
  rw [← Int32.toInt_inj]
  unfold aeq at h
  cases h1 : Nat.blt cx 4294967296 with
  | true =>
    have e1 := hx.1 (abl.mp h1)
    rw [h1] at h
    cases h2 : Nat.blt cy 4294967296 with
    | true =>
      have e2 := hy.1 (abl.mp h2)
      rw [h2] at h
      cases h3 : Nat.beq cx cy with
      | true =>
        have e3 := abq h3
        rw [h3] at h
        exact ⟨fun _ => ⟨env, he, h⟩, fun hn => by omega⟩
      | false =>
        have e3 := abq0 h3
        rw [h3] at h
        exact ⟨fun hn => by omega, fun _ => ⟨env, he, h⟩⟩
    | false =>
      rw [h2] at h
      simp only [cond_true, cond_false] at h
      rcases avar_s h with h | ⟨lo, hi, hz, hc, h⟩
      · exact hb h
      · have e2 := hy.2 (abl0 h2) hc
        have h9 := aeqv_s he hz h
        rw [← e2] at h9
        exact ⟨fun hn => h9.1 (by omega), fun hn => h9.2 (by omega)⟩
  | false =>
    rw [h1] at h
    cases h2 : Nat.blt cy 4294967296 with
    | false =>
      rw [h2] at h
      exact hb h
    | true =>
      rw [h2] at h
      have e2 := hy.1 (abl.mp h2)
      simp only [cond_true, cond_false] at h
      rcases avar_s h with h | ⟨lo, hi, hz, hc, h⟩
      · exact hb h
      · have e1 := hx.2 (abl0 h1) hc
        have h9 := aeqv_s he hz h
        rw [← e1] at h9
        exact ⟨fun hn => h9.1 (by omega), fun hn => h9.2 (by omega)⟩
def aVR (V : Nat → Int32) : aV → Value → Prop
  | .inl c, v => ∃ x, v = .int x ∧ arel V c x
  | .inr w, v => v = w
def aSR (V : Nat → Int32) : aSt → List Value → Prop
  | [], [] => True
  | a :: l, v :: m => aVR V a v ∧ aSR V l m
  | [], _ :: _ => False
  | _ :: _, [] => False
def aoR (V : Nat → Int32) : Option aV → Option Value → Prop
  | none, _ => True
  | some a, o => ∃ v, o = some v ∧ aVR V a v
def aLR (V : Nat → Int32) : aLs → zLs → Prop
  | [], [] => True
  | a :: l, v :: m => aoR V a v ∧ aLR V l m
  | [], _ :: _ => False
  | _ :: _, [] => False
set_option maxRecDepth 100000 in
theorem aSR_ci {V : Nat → Int32} {c : Nat} {x : Int32} {a : aSt} {s : List Value} (h : arel V c x) (hs : aSR V a s) : aSR V (.inl c :: a) (.int x :: s) := ⟨⟨x, rfl, h⟩, hs⟩
set_option maxRecDepth 100000 in
theorem aSR_co {V : Nat → Int32} {w : Value} {a : aSt} {s : List Value} (hs : aSR V a s) : aSR V (.inr w :: a) (w :: s) := ⟨rfl, hs⟩
set_option maxRecDepth 100000 in
theorem aSR_cv {V : Nat → Int32} {v : aV} {w : Value} {a : aSt} {s : List Value} (h : aVR V v w) (hs : aSR V a s) : aSR V (v :: a) (w :: s) := ⟨h, hs⟩
set_option maxRecDepth 100000 in
theorem aSR_i {V : Nat → Int32} {c : Nat} {a : aSt} : ∀ {s : List Value}, aSR V (.inl c :: a) s → ∃ x r, s = .int x :: r ∧ arel V c x ∧ aSR V a r
  | [], h => nomatch h
  | _ :: r, ⟨⟨x, e, h1⟩, h2⟩ => ⟨x, r, by rw [e], h1, h2⟩
set_option maxRecDepth 100000 in
theorem aSR_o {V : Nat → Int32} {w : Value} {a : aSt} : ∀ {s : List Value}, aSR V (.inr w :: a) s → ∃ r, s = w :: r ∧ aSR V a r
  | [], h => nomatch h
  | _ :: r, ⟨e, h2⟩ => ⟨r, by rw [show _ = w from e], h2⟩
set_option maxRecDepth 100000 in
theorem aSR_v {V : Nat → Int32} {v : aV} {a : aSt} : ∀ {s : List Value}, aSR V (v :: a) s → ∃ w r, s = w :: r ∧ aVR V v w ∧ aSR V a r
  | [], h => nomatch h
  | w :: r, ⟨e, h2⟩ => ⟨w, r, rfl, e, h2⟩
set_option maxRecDepth 100000 in
theorem aSR_n {V : Nat → Int32} : ∀ {s : List Value}, aSR V [] s → s = []
  | [], _ => rfl
  | _ :: _, h => nomatch h
set_option maxRecDepth 100000 in
theorem aLR_at {V : Nat → Int32} : ∀ {a : aLs} {l : zLs} {i : Nat} {v : aV}, aLR V a l → zat a i = some (some v) → ∃ w, zat l i = some (some w) ∧ aVR V v w
  | [], _, _, _, _, h => nomatch h
  | _ :: _, [], _, _, h, _ => nomatch h
  | o :: a, p :: l, 0, v, h, e => by
    cases (Option.some.inj e)
    obtain ⟨w, e1, h1⟩ := h.1
    exact ⟨w, congrArg some e1, h1⟩
  | o :: a, p :: l, i + 1, v, h, e => aLR_at (a := a) (l := l) h.2 e
def aKl (n : Nat) (o : Option aV) : Option aV := match n with
  | 0 => (match o with
    | some (.inr (.long _)) => none
    | o => o)
  | _ + 1 => o
noncomputable def akl (n : Nat) (o : Option aV) (k : Option aV → Bool) : Bool := match n with
  | 0 => (match o with
    | some (.inr (.long _)) => k none
    | o => k o)
  | _ + 1 => k o
set_option maxRecDepth 100000 in
theorem akl_eq (n : Nat) (o : Option aV) (k : Option aV → Bool) : akl n o k = k (aKl n o) := by
  cases n with
  | zero =>
    cases o with
    | none => rfl
    | some a =>
      cases a with
      | inl c => rfl
      | inr w => cases w <;> rfl
  | succ n => rfl
noncomputable def ast (v : aV) (n : Nat) : aLs → (aLs → Bool) → Bool := Nat.rec (motive := fun _ => aLs → (aLs → Bool) → Bool)
  (fun l k => List.rec (motive := fun _ => Bool) (k []) (fun _ t _ => k (some v :: t)) l)
  (fun m ih l k => List.rec (motive := fun _ => Bool) (k []) (fun o t _ => akl m o (fun o' => ih t (fun r => k (o' :: r)))) l) n
def asl2 (v : aV) : Nat → aLs → aLs
  | _, [] => []
  | 0, _ :: t => some v :: t
  | n + 1, o :: t => aKl n o :: asl2 v n t
set_option maxRecDepth 100000 in
theorem ast_eq (v : aV) : ∀ (n : Nat) (l : aLs) (k : aLs → Bool), ast v n l k = k (asl2 v n l)
  | 0, [], _ => rfl
  | 0, _ :: _, _ => rfl
  | n + 1, [], k => rfl
  | n + 1, o :: t, k => by
    show akl n o (fun o' => ast v n t (fun r => k (o' :: r))) = _
    rw [akl_eq, ast_eq v n t]
    rfl
set_option maxRecDepth 100000 in
theorem aKl_s {V : Nat → Int32} {n : Nat} {a : Option aV} {o : Option Value} (h : aoR V a o) : aoR V (aKl n a) (zkl n o) := by
  cases n with
  | succ n => exact h
  | zero =>
    cases a with
    | none => exact trivial
    | some a =>
      obtain ⟨v, e, hv⟩ := h
      subst e
      cases a with
      | inl c =>
        obtain ⟨x, e, hx⟩ := hv
        subst e
        exact ⟨_, rfl, _, rfl, hx⟩
      | inr w =>
        have e : v = w := hv
        subst e
        cases v <;> first | exact trivial | exact ⟨_, rfl, rfl⟩
set_option maxRecDepth 100000 in
theorem ast_s {V : Nat → Int32} {v : aV} {w : Value} (hv : aVR V v w) : ∀ {n : Nat} {a : aLs} {l : zLs}, aLR V a l → aLR V (asl2 v n a) (zstl l n w)
  | 0, [], [], _ => trivial
  | _ + 1, [], [], _ => trivial
  | 0, [], _ :: _, h => nomatch h
  | _ + 1, [], _ :: _, h => nomatch h
  | 0, _ :: _, [], h => nomatch h
  | _ + 1, _ :: _, [], h => nomatch h
  | 0, _ :: a, _ :: l, h => ⟨⟨w, rfl, hv⟩, h.2⟩
  | n + 1, o :: a, p :: l, h => ⟨aKl_s h.1, ast_s hv (n := n) h.2⟩
set_option maxRecDepth 100000 in
theorem ast_si {V : Nat → Int32} {c n : Nat} {x : Int32} {a : aLs} {l : zLs} (h : arel V c x) (hl : aLR V a l) : aLR V (asl2 (.inl c) n a) (zstl l n (.int x)) := ast_s (v := .inl c) (w := .int x) ⟨x, rfl, h⟩ hl
set_option maxRecDepth 100000 in
theorem ast_so {V : Nat → Int32} {n : Nat} {w : Value} {a : aLs} {l : zLs} (hl : aLR V a l) : aLR V (asl2 (.inr w) n a) (zstl l n w) := ast_s (v := .inr w) (w := w) rfl hl
noncomputable def asu : aSt → Nat := fun l => List.rec (motive := fun _ => Nat) 0 (fun v _ ih => (match v with
  | .inl _ => 1
  | .inr w => zcw w) + ih) l
set_option maxRecDepth 100000 in
theorem asu_s {V : Nat → Int32} : ∀ {a : aSt} {s : List Value}, aSR V a s → zsum s = asu a
  | [], [], _ => rfl
  | [], _ :: _, h => nomatch h
  | _ :: _, [], h => nomatch h
  | .inl c :: a, v :: s, h => by
    obtain ⟨⟨x, e, -⟩, h2⟩ := h
    subst e
    show 1 + zsum s = 1 + asu a
    rw [asu_s h2]
  | .inr w :: a, v :: s, h => by
    obtain ⟨e, h2⟩ := h
    have e : v = w := e
    subst e
    show zcw v + zsum s = zcw v + asu a
    rw [asu_s h2]
def ac1 : aV → Bool
  | .inl _ => true
  | .inr w => zc1 w
set_option maxRecDepth 100000 in
theorem ac1_s {V : Nat → Int32} {a : aV} {v : Value} (h : aVR V a v) : zc1 v = ac1 a := by
  cases a with
  | inl c => obtain ⟨x, e, -⟩ := h; subst e; rfl
  | inr w => have e : v = w := h; subst e; rfl
set_option maxRecDepth 100000 in
theorem aal_s {V : Nat → Int32} : ∀ {a : aSt} {s : List Value}, aSR V a s → s.all zc1 = a.all ac1
  | [], [], _ => rfl
  | [], _ :: _, h => nomatch h
  | _ :: _, [], h => nomatch h
  | a :: l, v :: s, h => by
    rw [List.all_cons, List.all_cons, ac1_s h.1, aal_s h.2]
noncomputable def apop (n : Nat) : aSt → aSt → (aSt → aSt → Bool) → Bool := Nat.rec (motive := fun _ => aSt → aSt → (aSt → aSt → Bool) → Bool)
  (fun st acc k => k acc st)
  (fun _ ih st acc k => List.rec (motive := fun _ => Bool) false (fun v t _ => ih t (v :: acc) k) st) n
set_option maxRecDepth 100000 in
theorem apop_s {V : Nat → Int32} : ∀ {n : Nat} {a b : aSt} {s t : List Value} {k : aSt → aSt → Bool}, aSR V a s → aSR V b t → apop n a b k = true → ∃ as ar ss sr, zpop n s t = some (ss, sr) ∧ aSR V as ss ∧ aSR V ar sr ∧ k as ar = true
  | 0, a, b, s, t, k, h1, h2, h => ⟨b, a, t, s, rfl, h2, h1, h⟩
  | n + 1, [], _, _, _, _, _, _, h => nomatch h
  | n + 1, v :: a, b, [], t, k, h1, _, _ => nomatch h1
  | n + 1, v :: a, b, w :: s, t, k, h1, h2, h => apop_s (n := n) (a := a) (b := v :: b) (s := s) (t := w :: t) (k := k) h1.2 ⟨h1.1, h2⟩ h
noncomputable def arep (n : Nat) : (aLs → Bool) → Bool := Nat.rec (motive := fun _ => (aLs → Bool) → Bool) (fun k => k []) (fun _ ih k => ih (fun r => k (none :: r))) n
set_option maxRecDepth 100000 in
theorem arep_eq : ∀ (n : Nat) (k : aLs → Bool), arep n k = k (List.replicate n none)
  | 0, _ => rfl
  | n + 1, k => arep_eq n (fun r => k (none :: r))
noncomputable def aent (l : aSt) : Nat → (aLs → Bool) → Bool := List.rec (motive := fun _ => Nat → (aLs → Bool) → Bool) (fun n k => arep n k)
  (fun v _ ih n k => Nat.rec (motive := fun _ => Bool) false (fun m _ => ih m (fun r => k (some v :: r))) n) l
set_option maxRecDepth 100000 in
theorem aLR_rep (V : Nat → Int32) : ∀ n : Nat, aLR V (List.replicate n none) (List.replicate n none)
  | 0 => trivial
  | n + 1 => ⟨trivial, aLR_rep V n⟩
set_option maxRecDepth 100000 in
theorem aent_s {V : Nat → Int32} : ∀ {a : aSt} {s : List Value} {n : Nat} {k : aLs → Bool}, aSR V a s → aent a n k = true → ∃ l, aLR V l (zent n s) ∧ k l = true
  | [], [], n, k, _, h => ⟨List.replicate n none, aLR_rep V n, (arep_eq n k).symm.trans (show arep n k = true from h)⟩
  | [], _ :: _, _, _, h, _ => nomatch h
  | _ :: _, [], _, _, h, _ => nomatch h
  | _ :: _, _ :: _, 0, _, _, h => nomatch h
  | v :: a, w :: s, n + 1, k, h1, h => by
    obtain ⟨l, h2, h3⟩ := aent_s (a := a) (s := s) (n := n) (k := fun r => k (some v :: r)) h1.2 h
    refine ⟨some v :: l, ?_, h3⟩
    have e : zent (n + 1) (w :: s) = some w :: zent n s := by
      unfold zent
      rw [List.length_cons, Nat.add_sub_add_right]
      rfl
    rw [e]
    exact ⟨⟨w, rfl, h1.1⟩, h2⟩
noncomputable def agI (t : aT) (j : Nat) : Nat := agd 2147483648 (agd [] (agd [] (agd [] t (j / 4096)) (j / 256 % 16)) (j / 16 % 16)) (j % 16)
noncomputable def asI (t : aT) (j x : Nat) (k : aT → Bool) : Bool :=
  asd 2147483648 (j % 16) x (agd [] (agd [] (agd [] t (j / 4096)) (j / 256 % 16)) (j / 16 % 16)) fun a =>
  asd [] (j / 16 % 16) a (agd [] (agd [] t (j / 4096)) (j / 256 % 16)) fun b =>
  asd [] (j / 256 % 16) b (agd [] t (j / 4096)) fun c => asd [] (j / 4096) c t k
set_option maxRecDepth 100000 in
theorem agd_nil {α : Type} (d : α) : ∀ j, agd d ([] : List α) j = d := fun _ => rfl
set_option maxRecDepth 100000 in
theorem asI_s {t : aT} {j x : Nat} {k : aT → Bool} (h : asI t j x k = true) : ∃ t', (∀ i, agI t' i = if i = j then x else agI t i) ∧ k t' = true := by
  unfold asI at h
  rw [asd_eq, asd_eq, asd_eq, asd_eq] at h
  refine ⟨_, ?_, h⟩
  intro i
  unfold agI
  rw [agd_asl]
  by_cases h1 : i / 4096 = j / 4096
  · rw [if_pos h1, agd_asl]
    by_cases h2 : i / 256 % 16 = j / 256 % 16
    · rw [if_pos h2, agd_asl]
      by_cases h3 : i / 16 % 16 = j / 16 % 16
      · rw [if_pos h3, agd_asl]
        by_cases h4 : i % 16 = j % 16
        · rw [if_pos h4, if_pos (by omega)]
        · rw [if_neg h4, if_neg (by omega), h1, h2, h3]
      · rw [if_neg h3, if_neg (by omega), h1, h2]
    · rw [if_neg h2, if_neg (by omega), h1]
  · rw [if_neg h1, if_neg (by omega)]
noncomputable def aget (cs : List (List (zS × aT))) (a : Nat) : Option (zS × aT) := match agt cs (a / 16) with
  | some r => agt r (a % 16)
  | none => none
noncomputable def aput (cs : List (List (zS × aT))) (a : Nat) (c : zS × aT) (k : List (List (zS × aT)) → Bool) : Bool := match agt cs (a / 16) with
  | some r => asd c (a % 16) c r fun r' => asd [] (a / 16) r' cs k
  | none => false
noncomputable def apu (cs : List (List (zS × aT))) (n : Nat) (c : zS × aT) (k : List (List (zS × aT)) → Bool) : Bool := match agt cs (n / 16) with
  | some r => cond (Nat.beq r.length (n % 16)) (asd c (n % 16) c r fun r' => asd [] (n / 16) r' cs k) false
  | none => cond (Nat.beq cs.length (n / 16) && Nat.beq (n % 16) 0) (asd [] (n / 16) [c] cs k) false
set_option maxRecDepth 100000 in
theorem aget_e (cs : List (List (zS × aT))) (a : Nat) : aget cs a = (match zat cs (a / 16) with
  | some r => zat r (a % 16)
  | none => none) := by
  unfold aget
  rw [agt_eq]
  split
  · exact agt_eq _ _
  · rfl
set_option maxRecDepth 100000 in
theorem aput_s {cs : List (List (zS × aT))} {a : Nat} {c c0 : zS × aT} {k : List (List (zS × aT)) → Bool} (hg : aget cs a = some c0) (h : aput cs a c k = true) : ∃ cs', (∀ b, aget cs' b = if b = a then some c else aget cs b) ∧ k cs' = true := by
  rw [aget_e] at hg
  unfold aput at h
  rw [agt_eq] at h
  split at h
  · rename_i r hr
    rw [hr] at hg
    have hg : zat r (a % 16) = some c0 := hg
    rw [asd_eq, asd_eq] at h
    refine ⟨_, ?_, h⟩
    intro b
    rw [aget_e, aget_e, asl_zset _ _ _ _ (zat_lt hr), asl_zset _ _ _ _ (zat_lt hg), zat_zset _ _ _ _ (zat_lt hr)]
    by_cases h1 : b / 16 = a / 16
    · rw [if_pos h1]
      simp only
      rw [zat_zset _ _ _ _ (zat_lt hg), h1, hr]
      by_cases h2 : b % 16 = a % 16
      · rw [if_pos h2, if_pos (by omega)]
      · rw [if_neg h2, if_neg (by omega)]
    · rw [if_neg h1, if_neg (by omega)]
  · cases h
set_option maxRecDepth 100000 in
theorem apu_s {cs : List (List (zS × aT))} {a : Nat} {c : zS × aT} {k : List (List (zS × aT)) → Bool} (h : apu cs a c k = true) : ∃ cs', (∀ b, aget cs' b = if b = a then some c else aget cs b) ∧ k cs' = true := by
  unfold apu at h
  rw [agt_eq] at h
  split at h
  · rename_i r hr
    cases hl : Nat.beq r.length (a % 16) with
    | false => rw [hl] at h; cases h
    | true =>
      have hl2 := abq hl
      rw [hl, cond_true, asd_eq, asd_eq] at h
      refine ⟨_, ?_, h⟩
      intro b
      rw [aget_e, aget_e, asl_zset _ _ _ _ (zat_lt hr), zat_zset _ _ _ _ (zat_lt hr), ← hl2, asl_app]
      by_cases h1 : b / 16 = a / 16
      · rw [if_pos h1]
        simp only
        rw [zat_app, h1, hr]
        by_cases h2 : b % 16 = r.length
        · rw [if_pos h2, if_pos (by omega)]
        · rw [if_neg h2, if_neg (by omega)]
      · rw [if_neg h1, if_neg (by omega)]
  · rename_i hr
    cases hl : (Nat.beq cs.length (a / 16) && Nat.beq (a % 16) 0) with
    | false => rw [hl] at h; cases h
    | true =>
      rw [Bool.and_eq_true] at hl
      have hl1 := abq hl.1
      have hl2 := abq hl.2
      rw [hl.1, hl.2] at h
      simp only [Bool.and_self, cond_true] at h
      rw [asd_eq] at h
      refine ⟨_, ?_, h⟩
      intro b
      rw [aget_e, aget_e, ← hl1, asl_app, zat_app]
      by_cases h1 : b / 16 = cs.length
      · rw [if_pos h1]
        have hn : zat cs (b / 16) = none := by rw [h1, hl1]; exact hr
        rw [hn]
        by_cases h2 : b = a
        · rw [if_pos h2, show b % 16 = 0 by omega]
          rfl
        · rw [if_neg h2]
          simp only
          obtain ⟨m, hm⟩ : ∃ m, b % 16 = m + 1 := ⟨b % 16 - 1, by omega⟩
          rw [hm]
          rfl
      · rw [if_neg h1, if_neg (by omega)]
def aHR (V : Nat → Int32) (G : zH) (ah : aHp) (h : zH) : Prop :=
  (∀ k s t, aget ah.1 k = some (s, t) → s ≠ .inr (.inr ()) → zat h.1 k = some s ∧ ∀ j, arel V (agI t j) (h.2.1 k j)) ∧
  (∀ k, (aget ah.1 k = none ∨ ∃ t, aget ah.1 k = some (.inr (.inr ()), t)) → zat h.1 k = zat G.1 k ∧ h.2.1 k = G.2.1 k) ∧
  (match ah.2 with
    | none => h.1.length = G.1.length ∧ h.2.2 = G.2.2
    | some (m, J, c, q) => m = h.1.length ∧ h.2.2.1 = J ∧ h.2.2.2.1 = c ∧ h.2.2.2.2 = q)
set_option maxRecDepth 100000 in
theorem arel0 (V : Nat → Int32) : arel V 2147483648 0 := arel_of rfl
noncomputable def apsh (ah : aHp) (s : zS) (n : Nat) (k : Nat → aHp → Bool) : Bool := match ah.2 with
  | some (m, J, c, q) => apu ah.1 m (s, []) fun cs => afo (m + 1) fun m' => afo (c + 1) fun c' => afo (q + n) fun q' => k m (cs, some (m', zrow J m (fun _ => 0), c', q'))
  | none => false
section AHEAP
variable {V : Nat → Int32} {G : zH} {ah : aHp} {h : zH}
set_option maxRecDepth 100000 in
theorem apsh_s (hr : aHR V G ah h) {s : zS} {n : Nat} {k : Nat → aHp → Bool} (hs : s ≠ .inr (.inr ())) (e : apsh ah s n k = true) : ∃ ah', aHR V G ah' (zpush h s n) ∧ k h.1.length ah' = true := by
  obtain ⟨h2, h3, h4⟩ := hr
  unfold apsh at e
  split at e
  · rename_i m J c q hq
    rw [hq] at h4
    obtain ⟨g1, g2, g3, g4⟩ := h4
    subst g1
    obtain ⟨cs, hc, e⟩ := apu_s e
    rw [afo_eq, afo_eq, afo_eq] at e
    refine ⟨_, ⟨?_, ?_, ?_⟩, e⟩
    · intro k s' t hk hs'
      have hk : aget cs k = some (s', t) := hk
      rw [hc] at hk
      show zat (h.1 ++ [s]) k = _ ∧ ∀ j, arel V (agI t j) (zrow h.2.1 h.1.length (fun _ => 0) k j)
      rw [zat_app]
      by_cases hkl : k = h.1.length
      · rw [if_pos hkl] at hk ⊢
        cases hk
        refine ⟨rfl, fun j => ?_⟩
        rw [hkl, zrow_at]
        exact arel0 V
      · rw [if_neg hkl] at hk ⊢
        rw [zrow_ne _ _ hkl]
        exact h2 k s' t hk hs'
    · intro k hk
      have hk : aget cs k = none ∨ ∃ t, aget cs k = some (.inr (.inr ()), t) := hk
      rw [hc] at hk
      by_cases hkl : k = h.1.length
      · rw [if_pos hkl] at hk
        rcases hk with hk | ⟨t, hk⟩
        · cases hk
        · cases hk
          exact absurd rfl hs
      · rw [if_neg hkl] at hk
        show zat (h.1 ++ [s]) k = _ ∧ zrow h.2.1 h.1.length (fun _ => 0) k = _
        rw [zat_app, if_neg hkl, zrow_ne _ _ hkl]
        exact h3 k hk
    · refine ⟨?_, ?_, ?_, ?_⟩
      · show h.1.length + 1 = (h.1 ++ [s]).length
        rw [List.length_append]
        rfl
      · show zrow h.2.2.1 h.1.length (fun _ => 0) = zrow J h.1.length (fun _ => 0)
        rw [g2]
      · show h.2.2.2.1 + 1 = _
        rw [g3]
      · show h.2.2.2.2 + n = _
        rw [g4]
  · cases e
set_option maxRecDepth 100000 in
theorem aI_s (hr : aHR V G ah h) {a : Nat} {s : zS} {t t' : aT} (hg : aget ah.1 a = some (s, t)) (hs : s ≠ .inr (.inr ())) {f : Nat → Int32} (hf : ∀ j, arel V (agI t' j) (f j)) {k : List (List (zS × aT)) → Bool} (e : aput ah.1 a (s, t') k = true) : ∃ cs, aHR V G (cs, ah.2) (zsetI h a f) ∧ k cs = true := by
  obtain ⟨h2, h3, h4⟩ := hr
  obtain ⟨cs, hc, e⟩ := aput_s hg e
  refine ⟨cs, ⟨?_, ?_, h4⟩, e⟩
  · intro k s' t9 hk hs'
    have hk : aget cs k = some (s', t9) := hk
    rw [hc] at hk
    show zat h.1 k = _ ∧ ∀ j, arel V (agI t9 j) (zrow h.2.1 a f k j)
    by_cases hka : k = a
    · rw [if_pos hka] at hk
      cases hk
      rw [hka, zrow_at]
      exact ⟨(h2 a _ _ hg hs).1, hf⟩
    · rw [if_neg hka] at hk
      rw [zrow_ne _ _ hka]
      exact h2 k _ _ hk hs'
  · intro k hk
    have hk : aget cs k = none ∨ ∃ t, aget cs k = some (.inr (.inr ()), t) := hk
    rw [hc] at hk
    by_cases hka : k = a
    · rw [if_pos hka] at hk
      rcases hk with hk | ⟨t, hk⟩
      · cases hk
      · cases hk
        exact absurd rfl hs
    · rw [if_neg hka] at hk
      show zat h.1 k = _ ∧ zrow h.2.1 a f k = _
      rw [zrow_ne _ _ hka]
      exact h3 k hk
set_option maxRecDepth 100000 in
theorem aS_s (hr : aHR V G ah h) {a : Nat} {s s' : zS} {t : aT} (hg : aget ah.1 a = some (s, t)) (hs : s ≠ .inr (.inr ())) (hs' : s' ≠ .inr (.inr ())) {k : List (List (zS × aT)) → Bool} (e : aput ah.1 a (s', t) k = true) : ∃ cs, aHR V G (cs, ah.2) (zsetS h a s') ∧ k cs = true := by
  obtain ⟨h2, h3, h4⟩ := hr
  obtain ⟨cs, hc, e⟩ := aput_s hg e
  have hlt := zat_lt (h2 a _ _ hg hs).1
  refine ⟨cs, ⟨?_, ?_, ?_⟩, e⟩
  · intro k s9 t9 hk hs9
    have hk : aget cs k = some (s9, t9) := hk
    rw [hc] at hk
    show zat (zset h.1 a s') k = _ ∧ ∀ j, arel V (agI t9 j) (h.2.1 k j)
    rw [zat_zset _ _ _ _ hlt]
    by_cases hka : k = a
    · rw [if_pos hka] at hk
      cases hk
      rw [if_pos hka, hka]
      exact ⟨rfl, (h2 a _ _ hg hs).2⟩
    · rw [if_neg hka] at hk
      rw [if_neg hka]
      exact h2 k _ _ hk hs9
  · intro k hk
    have hk : aget cs k = none ∨ ∃ t, aget cs k = some (.inr (.inr ()), t) := hk
    rw [hc] at hk
    by_cases hka : k = a
    · rw [if_pos hka] at hk
      rcases hk with hk | ⟨t, hk⟩
      · cases hk
      · cases hk
        exact absurd rfl hs'
    · rw [if_neg hka] at hk
      show zat (zset h.1 a s') k = _ ∧ h.2.1 k = _
      rw [zat_zset _ _ _ _ hlt, if_neg hka]
      exact h3 k hk
  · show match ah.2 with
    | none => (zset h.1 a s').length = G.1.length ∧ h.2.2 = G.2.2
    | some (m, J, c, q) => m = (zset h.1 a s').length ∧ h.2.2.1 = J ∧ h.2.2.2.1 = c ∧ h.2.2.2.2 = q
    rw [zset_eq, List.length_set]
    exact h4
end AHEAP
