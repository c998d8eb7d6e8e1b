abbrev bPv : Type := List (Nat × Nat × (Int × List (Nat × Int)))
abbrev bPo : Type := List (Int × Int) × List (Int × List (Nat × Int)) × Option bV × List (Nat × Nat × (Int × List (Nat × Int)))
/-- what a call does: depth, units written, cells and slots made, arguments, bounds, what holds of them, places; what is behind it -/
abbrev bSm : Type := Nat × Nat × Nat × Nat × bSt × List (Int × Int) × List (Int × List (Nat × Int)) × List (Nat × Nat × (Int × List (Nat × Int))) × List bPo
noncomputable def bsb (σ : List bI) (l : bT) : bI → (bI → Bool) → Bool := List.rec (motive := fun _ => bI → (bI → Bool) → Bool) (fun acc k => k acc)
  (fun q _ ih acc k => match agt σ q.1 with
    | some g => bsum q.2 g acc fun acc => ih acc k
    | none => false) l
def bsg (V : List Int) (σ : List bI) (Vc : List Int) : Prop := σ.length = Vc.length ∧ ∀ i g, zat σ i = some g → ∃ v, zat Vc i = some v ∧ brel V g v
set_option maxRecDepth 100000 in
theorem bsg_up {V V' : List Int} (hx : bxt V V') {σ : List bI} {Vc : List Int} (h : bsg V σ Vc) : bsg V' σ Vc := ⟨h.1, fun i g e => by
  obtain ⟨v, h1, h2⟩ := h.2 i g e
  exact ⟨v, h1, brel_up hx h2⟩⟩
set_option maxRecDepth 100000 in
theorem bsg_app {V : List Int} {σ : List bI} {Vc : List Int} (h : bsg V σ Vc) {q : bI} {y : Int} (hq : brel V q y) : bsg V (σ ++ [q]) (Vc ++ [y]) := by
  refine ⟨by simp [h.1], ?_⟩
  intro i g hz
  rw [zat_app] at hz
  by_cases hi : i = σ.length
  · rw [if_pos hi] at hz
    cases hz
    rw [hi, h.1]
    exact ⟨y, zat_app_at, hq⟩
  · rw [if_neg hi] at hz
    obtain ⟨v, g1, g2⟩ := h.2 _ _ hz
    exact ⟨v, zat_up g1, g2⟩
set_option maxRecDepth 100000 in
theorem bsb_s {V : List Int} {σ : List bI} {Vc : List Int} (h : bsg V σ Vc) : ∀ {l : bT} {acc : bI} {s t : Int} {k : bI → Bool}, bev Vc l s → brel V acc t → bsb σ l acc k = true → ∃ r, brel V r (t + s) ∧ k r = true
  | [], acc, s, t, k, h1, h2, e => ⟨acc, by
      have h1 : s = 0 := h1
      rw [h1, Int.add_zero]
      exact h2, e⟩
  | (i, a) :: l, acc, s, t, k, ⟨v, u, h1, h2, h3⟩, h4, e => by
    have h1 : zat Vc i = some v := h1
    have h3 : s = a * v + u := h3
    have e : (match agt σ i with
      | some g => bsum a g acc fun acc => bsb σ l acc k
      | none => false) = true := e
    split at e
    · rename_i g hz
      rw [agt_eq] at hz
      obtain ⟨v', g1, g2⟩ := h.2 _ _ hz
      rw [h1] at g1
      cases g1
      obtain ⟨r, g3, e⟩ := bsum_s (k := fun acc => bsb σ l acc k) h4 g2 e
      obtain ⟨r', g4, e⟩ := bsb_s h (l := l) h2 g3 e
      refine ⟨r', ?_, e⟩
      rw [h3, ← Int.add_assoc]
      exact g4
    · cases e
noncomputable def bsF (σ : List bI) (f : bI) (k : bI → Bool) : Bool := bsb σ f.2 (f.1, []) k
set_option maxRecDepth 100000 in
theorem bsF_s {V : List Int} {σ : List bI} {Vc : List Int} (h : bsg V σ Vc) {f : bI} {x : Int} {k : bI → Bool} (hf : brel Vc f x) (e : bsF σ f k = true) : ∃ r, brel V r x ∧ k r = true := by
  obtain ⟨s, h1, h2⟩ := hf
  obtain ⟨r, h3, e⟩ := bsb_s h h1 (brel_c V f.1) e
  refine ⟨r, ?_, e⟩
  rw [h2]
  exact h3
set_option maxRecDepth 100000 in
theorem bsF_b {V : List Int} {σ : List bI} {Vc : List Int} (h : bsg V σ Vc) : ∀ {l : bT} {acc : bI} {t : Int} {k : bI → Bool}, brel V acc t → bsb σ l acc k = true → ∃ s, bev Vc l s ∧ ∃ r, brel V r (t + s) ∧ k r = true
  | [], acc, t, k, h2, e => ⟨0, rfl, acc, by rw [Int.add_zero]; exact h2, e⟩
  | (i, a) :: l, acc, t, k, h4, e => by
    have e : (match agt σ i with
      | some g => bsum a g acc fun acc => bsb σ l acc k
      | none => false) = true := e
    split at e
    · rename_i g hz
      rw [agt_eq] at hz
      obtain ⟨v, g1, g2⟩ := h.2 _ _ hz
      obtain ⟨r, g3, e⟩ := bsum_s (k := fun acc => bsb σ l acc k) h4 g2 e
      obtain ⟨s, g4, r', g5, e⟩ := bsF_b h (l := l) g3 e
      refine ⟨a * v + s, ⟨v, s, g1, g4, rfl⟩, r', ?_, e⟩
      rw [← Int.add_assoc]
      exact g5
    · cases e
def bmq (l : bT) (m : Nat) : Bool := match l with
  | [] => false
  | q :: l => (match l with
    | [] => Nat.beq q.1 m
    | _ :: _ => false)
noncomputable def bdw (a : Int) (f : bI) (S : bS) (k : bI → Bool) : Bool := bmd2 a f.2 fun ts => bfo (f.1 / a) fun c => bsum (-a) (c, ts) f fun d => cond (cond (bfq d (0, [])) true (cond (bch d S) (bsum (-1) d (0, []) fun d => bch d S) false)) (k (c, ts)) false
noncomputable def bmy (l : bT) (d : bI) (S : bS) (k : bI → Bool) : Bool := match l with
  | [] => false
  | q :: _ => bdw q.2 d S k
noncomputable def bmf (m : Nat) (σ : List bI) (f g : bI) (S : bS) (k : Nat → List bI → Bool) : Bool := cond (bmq f.2 m)
  (bsum (-1) (f.1, []) g fun d => bmy f.2 d S fun y => asd (0, []) m y σ fun σ => afo (m + 1) fun m => k m σ)
  (bsF σ f fun f' => bsum (-1) f' g fun d => cond (cond (bfq d (0, [])) true (cond (bch d S) (bsum (-1) d (0, []) fun d => bch d S) false)) (k m σ) false)
def bvq (w u : Value) : Bool := match w with
  | .null => (match u with
    | .null => true
    | _ => false)
  | .ref a => (match u with
    | .ref b => Nat.beq a b
    | _ => false)
  | .retAddr a => (match u with
    | .retAddr b => Nat.beq a b
    | _ => false)
  | .float a => (match u with
    | .float b => Nat.beq a.toNat b.toNat
    | _ => false)
  | .double a => (match u with
    | .double b => Nat.beq a.toNat b.toNat
    | _ => false)
  | .int _ => false
  | .long _ => false
set_option maxRecDepth 100000 in
theorem bvq_s {w u : Value} (h : bvq w u = true) : w = u := by
  cases w with
  | null => cases u <;> first | rfl | cases h
  | ref a => cases u <;> first | exact congrArg Value.ref (abq h) | cases h
  | retAddr a => cases u <;> first | exact congrArg Value.retAddr (abq h) | cases h
  | float a => cases u <;> first | exact congrArg Value.float (UInt32.toNat_inj.mp (abq h)) | cases h
  | double a => cases u <;> first | exact congrArg Value.double (UInt64.toNat_inj.mp (abq h)) | cases h
  | int a => cases h
  | long a => cases h
section BMT
variable {E : zE} {tb : bTb} {W : Nat} {h0 : zH} {V : List Int} {S : bS} {h : zH}
set_option maxRecDepth 100000 in
theorem bdw_s (hS : bSS E tb W h0 V S h) {a : Int} {f : bI} {x : Int} (hf : brel V f x) {k : bI → Bool} (e : bdw a f S k = true) : ∃ g y, brel V g y ∧ x = a * y ∧ k g = true := by
  obtain ⟨s, h1, h2⟩ := hf
  unfold bdw at e
  obtain ⟨ts, t, g1, e⟩ := bmd2_s h1 e
  rw [bfo_eq] at e
  have g2 : brel V (f.1 / a, ts) (f.1 / a + t) := ⟨t, g1, rfl⟩
  obtain ⟨d, g3, e⟩ := bsum_s (x := x) ⟨s, h1, h2⟩ g2 e
  obtain ⟨c1, e⟩ := bcnd e
  refine ⟨_, _, g2, ?_, e⟩
  rw [Int.neg_mul] at g3
  cases c2 : bfq d (0, []) with
  | true =>
    rw [bfq_s c2] at g3
    have := brel_k g3
    omega
  | false =>
    rw [c2, cond_false] at c1
    obtain ⟨c3, c4⟩ := bcnd c1
    have := bch_s hS g3 c3
    obtain ⟨d', h5, c4⟩ := bsum_s (brel_c V 0) g3 c4
    have := bch_s hS h5 c4
    omega
set_option maxRecDepth 100000 in
theorem bmf_s (hS : bSS E tb W h0 V S h) {σ : List bI} {Vc : List Int} (hσ : bsg V σ Vc) {m : Nat} (hm : m = σ.length) {f g : bI} {x : Int} (hg : brel V g x) {k : Nat → List bI → Bool} (e : bmf m σ f g S k = true) : ∃ Vc' σ', bxt Vc Vc' ∧ bsg V σ' Vc' ∧ brel Vc' f x ∧ k σ'.length σ' = true := by
  unfold bmf at e
  obtain ⟨c, l⟩ := f
  cases hb : bmq l m with
  | false =>
    rw [show bmq (c, l).2 m = false from hb, cond_false] at e
    obtain ⟨s, h1, f', h2, e⟩ := bsF_b hσ (brel_c V c) e
    obtain ⟨d, h3, e⟩ := bsum_s hg h2 e
    obtain ⟨c1, e⟩ := bcnd e
    have h4 : x = c + s := by
      cases c2 : bfq d (0, []) with
      | true =>
        rw [bfq_s c2] at h3
        have := brel_k h3
        omega
      | false =>
        rw [c2, cond_false] at c1
        obtain ⟨c3, c4⟩ := bcnd c1
        have := bch_s hS h3 c3
        obtain ⟨d', h5, c4⟩ := bsum_s (brel_c V 0) h3 c4
        have := bch_s hS h5 c4
        omega
    exact ⟨Vc, σ, bxt_refl Vc, hσ, ⟨s, h1, h4⟩, by rw [← hm]; exact e⟩
  | true =>
    rw [show bmq (c, l).2 m = true from hb, cond_true] at e
    cases l with
    | nil => cases hb
    | cons q l =>
      cases l with
      | cons p l => cases hb
      | nil =>
        have hb : Nat.beq q.1 m = true := hb
        have e : (bsum (-1) (c, []) g fun d => bdw q.2 d S fun y => asd (0, []) m y σ fun σ => afo (m + 1) fun m => k m σ) = true := e
        obtain ⟨d, h1, e⟩ := bsum_s hg (brel_c V c) e
        obtain ⟨y, v, h2, h3, e⟩ := bdw_s hS h1 e
        rw [asd_eq, afo_eq, hm, asl_app] at e
        refine ⟨Vc ++ [v], σ ++ [y], ⟨[v], rfl⟩, bsg_app hσ h2, ?_, ?_⟩
        · refine ⟨q.2 * v, ⟨v, 0, ?_, rfl, by omega⟩, ?_⟩
          · rw [abq hb, hm, hσ.1]
            exact zat_app_at
          · show x = c + _
            omega
        · have : (σ ++ [y]).length = σ.length + 1 := by simp
          rw [this]
          exact e
noncomputable def bmv (m : Nat) (σ : List bI) (a b : bV) (S : bS) (k : Nat → List bI → Bool) : Bool := match a with
  | .inl f => (match b with
    | .inl g => bmf m σ f g S k
    | .inr _ => false)
  | .inr (.inl w) => (match b with
    | .inr (.inl u) => cond (bvq w u) (k m σ) false
    | _ => false)
  | .inr (.inr f) => (match b with
    | .inr (.inr g) => bmf m σ f g S k
    | _ => false)
set_option maxRecDepth 100000 in
theorem bmv_s (hS : bSS E tb W h0 V S h) {σ : List bI} {Vc : List Int} (hσ : bsg V σ Vc) {m : Nat} (hm : m = σ.length) {a b : bV} {w : Value} (hb : bVR V b w) {k : Nat → List bI → Bool} (e : bmv m σ a b S k = true) : ∃ Vc' σ', bxt Vc Vc' ∧ bsg V σ' Vc' ∧ bVR Vc' a w ∧ k σ'.length σ' = true := by
  unfold bmv at e
  split at e
  · split at e
    · obtain ⟨x, h1, h2⟩ := hb
      obtain ⟨Vc', σ', g1, g2, g3, g4⟩ := bmf_s hS hσ hm h2 e
      exact ⟨Vc', σ', g1, g2, ⟨x, h1, g3⟩, g4⟩
    · cases e
  · split at e
    · obtain ⟨h1, e⟩ := bcnd e
      refine ⟨Vc, σ, bxt_refl Vc, hσ, ?_, by rw [← hm]; exact e⟩
      rw [bvq_s h1]
      exact hb
    · cases e
  · split at e
    · obtain ⟨x, h1, h2⟩ := hb
      obtain ⟨Vc', σ', g1, g2, g3, g4⟩ := bmf_s hS hσ hm h2 e
      exact ⟨Vc', σ', g1, g2, ⟨x, h1, g3⟩, g4⟩
    · cases e
noncomputable def bms (S : bS) (l : bSt) : Nat → List bI → bSt → (Nat → List bI → Bool) → Bool := List.rec (motive := fun _ => Nat → List bI → bSt → (Nat → List bI → Bool) → Bool)
  (fun m σ t k => match t with
    | [] => k m σ
    | _ :: _ => false)
  (fun a _ ih m σ t k => match t with
    | [] => false
    | b :: t => bmv m σ a b S fun m σ => ih m σ t k) l
set_option maxRecDepth 100000 in
theorem bms_s (hS : bSS E tb W h0 V S h) : ∀ {l : bSt} {σ : List bI} {Vc : List Int} {m : Nat} {t : bSt} {ws : List Value} {k : Nat → List bI → Bool}, bsg V σ Vc → m = σ.length → bKR V t ws → bms S l m σ t k = true → ∃ Vc' σ', bxt Vc Vc' ∧ bsg V σ' Vc' ∧ bKR Vc' l ws ∧ k σ'.length σ' = true
  | [], σ, Vc, m, t, ws, k, hσ, hm, ht, e => by
    cases t with
    | cons b t => cases e
    | nil =>
      rw [bKR_n ht]
      exact ⟨Vc, σ, bxt_refl Vc, hσ, trivial, by rw [← hm]; exact e⟩
  | a :: l, σ, Vc, m, t, ws, k, hσ, hm, ht, e => by
    cases t with
    | nil => cases e
    | cons b t =>
      have e : (bmv m σ a b S fun m σ => bms S l m σ t k) = true := e
      obtain ⟨w, r, h1, h2, h3⟩ := bKR_v ht
      subst h1
      obtain ⟨Vc', σ', g1, g2, g3, e⟩ := bmv_s hS hσ hm h2 e
      obtain ⟨Vc9, σ9, f1, f2, f3, e⟩ := bms_s hS g2 rfl h3 e
      exact ⟨Vc9, σ9, bxt_trans g1 f1, f2, ⟨bVR_up f1 g3, f3⟩, e⟩
noncomputable def bml (S : bS) (l : bLs) : Nat → List bI → bLs → (Nat → List bI → Bool) → Bool := List.rec (motive := fun _ => Nat → List bI → bLs → (Nat → List bI → Bool) → Bool)
  (fun m σ t k => match t with
    | [] => k m σ
    | _ :: _ => false)
  (fun a _ ih m σ t k => match t with
    | [] => false
    | b :: t => (match a with
      | none => ih m σ t k
      | some a => (match b with
        | none => false
        | some b => bmv m σ a b S fun m σ => ih m σ t k))) l
set_option maxRecDepth 100000 in
theorem bml_s (hS : bSS E tb W h0 V S h) : ∀ {l : bLs} {σ : List bI} {Vc : List Int} {m : Nat} {t : bLs} {ws : zLs} {k : Nat → List bI → Bool}, bsg V σ Vc → m = σ.length → bLR V t ws → bml S l m σ t k = true → ∃ Vc' σ', bxt Vc Vc' ∧ bsg V σ' Vc' ∧ bLR Vc' l ws ∧ k σ'.length σ' = true
  | [], σ, Vc, m, t, ws, k, hσ, hm, ht, e => by
    cases t with
    | cons b t => cases e
    | nil =>
      cases ws with
      | cons w ws => exact ht.elim
      | nil => exact ⟨Vc, σ, bxt_refl Vc, hσ, trivial, by rw [← hm]; exact e⟩
  | a :: l, σ, Vc, m, t, ws, k, hσ, hm, ht, e => by
    cases t with
    | nil => cases e
    | cons b t =>
      cases ws with
      | nil => exact ht.elim
      | cons w ws =>
        have e : (match (generalizing := false) a with
          | none => bml S l m σ t k
          | some a => (match (generalizing := false) b with
            | none => false
            | some b => bmv m σ a b S fun m σ => bml S l m σ t k)) = true := e
        cases a with
        | none =>
          obtain ⟨Vc9, σ9, f1, f2, f3, e⟩ := bml_s hS hσ hm ht.2 e
          exact ⟨Vc9, σ9, f1, f2, ⟨trivial, f3⟩, e⟩
        | some a =>
          cases b with
          | none => cases e
          | some b =>
            obtain ⟨v, h1, h2⟩ := ht.1
            obtain ⟨Vc', σ', g1, g2, g3, e⟩ := bmv_s hS hσ hm h2 e
            obtain ⟨Vc9, σ9, f1, f2, f3, e⟩ := bml_s hS g2 rfl ht.2 e
            exact ⟨Vc9, σ9, bxt_trans g1 f1, f2, ⟨⟨v, h1, bVR_up f1 g3⟩, f3⟩, e⟩
def bpv (E : zE) (V : List Int) (l : bPv) (h : zH) : Prop := ∀ e, e ∈ l → brel V e.2.2 (bvl E h e.1 e.2.1)
set_option maxRecDepth 100000 in
theorem bpv_up {V V' : List Int} (hx : bxt V V') {l : bPv} {h : zH} (e : bpv E V l h) : bpv E V' l h := fun q hq => brel_up hx (e q hq)
noncomputable def bmo (l : bPv) : Nat → List bI → bS → (Nat → List bI → bS → Bool) → Bool := List.rec (motive := fun _ => Nat → List bI → bS → (Nat → List bI → bS → Bool) → Bool)
  (fun m σ S k => k m σ S)
  (fun q _ ih m σ S k => bri q.1 (.ofNat q.2.1, []) S fun g S => bmf m σ q.2.2 g S fun m σ => ih m σ S k) l
set_option maxRecDepth 100000 in
theorem bmo_s : ∀ {l : bPv} {V : List Int} {S : bS} {σ : List bI} {Vc : List Int} {m : Nat} {k : Nat → List bI → bS → Bool}, bSS E tb W h0 V S h → bsg V σ Vc → m = σ.length → bmo l m σ S k = true → ∃ V' S' Vc' σ', bxt V V' ∧ bSS E tb W h0 V' S' h ∧ bxt Vc Vc' ∧ bsg V' σ' Vc' ∧ bpv E Vc' l h ∧ k σ'.length σ' S' = true
  | [], V, S, σ, Vc, m, k, hS, hσ, hm, e => ⟨V, S, Vc, σ, bxt_refl V, hS, bxt_refl Vc, hσ, fun q hq => absurd hq List.not_mem_nil, by rw [← hm]; exact e⟩
  | q :: l, V, S, σ, Vc, m, k, hS, hσ, hm, e => by
    have e : (bri q.1 (.ofNat q.2.1, []) S fun g S => bmf m σ q.2.2 g S fun m σ => bmo l m σ S k) = true := e
    obtain ⟨V', g, S', g1, g2, g3, e⟩ := bri_s hS (jn := q.2.1) (brel_c V _) e
    obtain ⟨Vc', σ', f1, f2, f3, e⟩ := bmf_s g3 (bsg_up g1 hσ) hm g2 e
    obtain ⟨V9, S9, Vc9, σ9, d1, d2, d3, d4, d5, e⟩ := bmo_s g3 f2 rfl e
    refine ⟨V9, S9, Vc9, σ9, bxt_trans g1 d1, d2, bxt_trans f1 d3, d4, ?_, e⟩
    intro p hp
    cases hp with
    | head => exact brel_up d3 f3
    | tail _ hp => exact d5 p hp
/-- all within their bounds -/
noncomputable def bck (S : bS) (l : bE) : List bI → Bool := List.rec (motive := fun _ => List bI → Bool) (fun σ => match σ with
  | [] => true
  | _ :: _ => false)
  (fun q _ ih σ => match σ with
    | [] => false
    | g :: σ => cond (bwx g q.1 q.2 S) (ih σ) false) l
set_option maxRecDepth 100000 in
theorem bck_s (hS : bSS E tb W h0 V S h) : ∀ {l : bE} {σ : List bI} {Vc : List Int}, bsg V σ Vc → bck S l σ = true → benv Vc l
  | [], σ, Vc, hσ, e => by
    cases σ with
    | cons g σ => cases e
    | nil =>
      cases Vc with
      | cons v Vc => exact absurd hσ.1 (by simp)
      | nil => exact ⟨rfl, fun i lo hi z => nomatch z⟩
  | q :: l, σ, Vc, hσ, e => by
    cases σ with
    | nil => cases e
    | cons g σ =>
      cases Vc with
      | nil => exact absurd hσ.1 (by simp)
      | cons v Vc =>
        have e : cond (bwx g q.1 q.2 S) (bck S l σ) false = true := e
        obtain ⟨h1, e⟩ := bcnd e
        obtain ⟨v', h2, h3⟩ := hσ.2 0 g rfl
        have h2 : some v = some v' := h2
        cases h2
        have h4 := bwx_s hS h3 h1
        have h5 : bsg V σ Vc := ⟨by have := hσ.1; simp at this; exact this, fun i p hp => hσ.2 (i + 1) p hp⟩
        have h6 := bck_s hS h5 e
        refine ⟨by simp [h6.1], ?_⟩
        intro i lo hi hz
        cases i with
        | zero =>
          have hz : some q = some (lo, hi) := hz
          cases hz
          exact ⟨v, rfl, h4.1, h4.2⟩
        | succ i => exact h6.2 i lo hi hz
noncomputable def bcc (S : bS) (σ : List bI) (cs : bC) : Bool := List.rec (motive := fun _ => Bool) true (fun C _ ih => cond (bsF σ C fun g => bcx g S) ih false) cs
set_option maxRecDepth 100000 in
theorem bcc_s (hS : bSS E tb W h0 V S h) {σ : List bI} {Vc : List Int} (hσ : bsg V σ Vc) : ∀ {cs : bC}, bcc S σ cs = true → bcs Vc cs
  | [], _ => fun C hC => absurd hC List.not_mem_nil
  | C :: cs, e => by
    have e : cond (bsF σ C fun g => bcx g S) (bcc S σ cs) false = true := e
    obtain ⟨h1, e⟩ := bcnd e
    obtain ⟨s, h2, r, h3, h4⟩ := bsF_b hσ (brel_c V C.1) h1
    have h5 := bcx_s hS h3 h4
    intro D hD
    cases hD with
    | head => exact ⟨_, ⟨s, h2, rfl⟩, h5⟩
    | tail _ hD => exact bcc_s hS hσ e D hD
/-- the present places but those of units that were written -/
noncomputable def bdu (c : Nat) (j : bI) (W : Nat) : Bool := match bg2 unt c with
  | some (0, u) => Nat.testBit W u
  | some (1, u) => (match j with
    | (a, []) => Nat.testBit W (u + a.toNat)
    | (_, _ :: _) => true)
  | some (_ + 2, u) => (match j with
    | (a, []) => Nat.testBit W (u + breg a.toNat)
    | (_, _ :: _) => cond (Nat.beq (W / 2 ^ u % 16777216) 0) false true)
  | none => cond (Nat.beq c 1000000) false (cond (Nat.blt c 900) true (cond (cond (Nat.beq c 901) (bfq j (1, [])) false) false
    (cond (cond (Nat.beq c 902) false (Nat.testBit W bUst)) true (cond (Nat.beq c 903) (cond (Nat.beq (W / 2 ^ (bU85 + 3) % 8192) 0) false true) (Nat.testBit W (bU85 + 15))))))
set_option maxRecDepth 100000 in
theorem bun85 (k : Nat) : bun 85 k = bU85 + breg k := rfl
set_option maxRecDepth 100000 in
theorem bunst : bun 84 16 = bUst := rfl
set_option maxRecDepth 100000 in
theorem btb {W u n i : Nat} (h : W / 2 ^ u % 2 ^ n = 0) (hi : i < n) : Nat.testBit W (u + i) = false := by
  have h1 : (W >>> u) % 2 ^ n = 0 := by rw [Nat.shiftRight_eq_div_pow]; exact h
  have h2 : Nat.testBit ((W >>> u) % 2 ^ n) i = false := by rw [h1]; exact Nat.zero_testBit i
  rw [Nat.testBit_mod_two_pow, decide_eq_true hi, Bool.true_and, Nat.testBit_shiftRight] at h2
  exact h2
noncomputable def bdr (W : Nat) (ov : bO) : (bO → Bool) → Bool := List.rec (motive := fun _ => (bO → Bool) → Bool) (fun k => k [])
  (fun q _ ih k => cond (bdu q.1 q.2.1 W) (ih k) (ih fun r => k (q :: r))) ov
set_option maxRecDepth 100000 in
theorem bdu_s {V : List Int} {W : Nat} {h h' : zH} (hf : ∀ c k, Nat.testBit W (bun c k) = false → h'.2.1 c k = h.2.1 c k) {c jn : Nat} {j : bI} (hj : brel V j (jn : Int)) (e : bdu c j W = false) : bvl E h' c jn = bvl E h c jn := by
  have real : Nat.blt c 900 = true → Nat.testBit W (bun c jn) = false → bvl E h' c jn = bvl E h c jn := by
    intro h1 h2
    rw [bvl_n h1, bvl_n h1, hf c jn h2]
  have h903 : ∀ c, bg2 unt c ≠ none → Nat.blt c 900 = true := by
    intro c hc
    cases hb : Nat.blt c 900 with
    | true => rfl
    | false =>
      have := abl0 hb
      exfalso
      apply hc
      unfold bg2
      rw [agt_eq]
      have h2 : zat unt (c / 16) = none := by
        rw [zat_eq]
        exact List.getElem?_eq_none (Nat.le_trans (show unt.length ≤ 13 from Nat.le_of_ble_eq_true rfl) (by omega))
      rw [h2]
  unfold bdu at e
  split at e
  · rename_i u hz
    refine real (h903 c (by rw [hz]; intro z; cases z)) ?_
    unfold bun
    rw [hz]
    exact e
  · rename_i u hz
    refine real (h903 c (by rw [hz]; intro z; cases z)) ?_
    unfold bun
    rw [hz]
    split at e
    · rename_i a
      have := brel_k hj
      have h2 : jn = a.toNat := by omega
      show Nat.testBit W (u + jn) = false
      rw [h2]
      exact e
    · cases e
  · rename_i n u hz
    refine real (h903 c (by rw [hz]; intro z; cases z)) ?_
    unfold bun
    rw [hz]
    split at e
    · rename_i a
      have := brel_k hj
      have h2 : jn = a.toNat := by omega
      show Nat.testBit W (u + breg jn) = false
      rw [h2]
      exact e
    · cases hb : Nat.beq (W / 2 ^ u % 16777216) 0 with
      | false => rw [hb] at e; cases e
      | true => exact btb (n := 24) (abq hb) (breg_l jn)
  · cases g1 : Nat.beq c 1000000 with
    | true =>
      have g1 := abq g1
      subst g1
      rw [bvl_s, bvl_s]
    | false =>
      rw [g1, cond_false] at e
      cases g2 : Nat.blt c 900 with
      | true => rw [g2] at e; cases e
      | false =>
        rw [g2, cond_false] at e
        cases g3 : (cond (Nat.beq c 901) (bfq j (1, [])) false) with
        | true =>
          obtain ⟨g4, g5⟩ := bcnd g3
          rw [bfq_s g5] at hj
          have := brel_k hj
          have hm : jn = 1 := by omega
          have g4 := abq g4
          subst g4
          subst hm
          rw [bvl_1, bvl_1]
        | false =>
          rw [g3, cond_false] at e
          cases g4 : (cond (Nat.beq c 902) false (Nat.testBit W bUst)) with
          | true => rw [g4] at e; cases e
          | false =>
            rw [g4, cond_false] at e
            have st : c ≠ 902 → h'.2.1 84 16 = h.2.1 84 16 := by
              intro hc
              apply hf
              rw [bunst]
              cases hb : Nat.beq c 902 with
              | true => exact absurd (abq hb) hc
              | false => rw [hb, cond_false] at g4; exact g4
            have cd : c ≠ 903 → ∀ p, 1675 ≤ p → h'.2.1 85 p = h.2.1 85 p := by
              intro hc p hp
              apply hf
              rw [bun85, breg_c, if_neg (by omega), if_neg (by omega), if_neg (by omega), if_neg (by omega)]
              cases hb : Nat.beq c 903 with
              | true => exact absurd (abq hb) hc
              | false => rw [hb, cond_false] at e; exact e
            have ln : c = 903 → ∀ p, 1627 ≤ p → h'.2.1 85 p = h.2.1 85 p := by
              intro hc p hp
              apply hf
              rw [bun85]
              have hb : Nat.beq c 903 = true := by rw [hc]; rfl
              rw [hb, cond_true] at e
              cases hm : Nat.beq (W / 2 ^ (bU85 + 3) % 8192) 0 with
              | false => rw [hm] at e; cases e
              | true =>
                have h2 : 3 ≤ breg p ∧ breg p < 16 := by
                  rw [breg_c, if_neg (by omega), if_neg (by omega), if_neg (by omega)]
                  split
                  · omega
                  · omega
                have h3 := btb (n := 13) (i := breg p - 3) (abq hm) (by omega)
                rw [show bU85 + 3 + (breg p - 3) = bU85 + breg p by omega] at h3
                exact h3
            exact bvl_e g2 (fun h1 _ => ⟨cd (by omega), st (by omega)⟩) (fun h1 => cd (by omega)) (fun h1 => ⟨ln h1, st (by omega)⟩)
set_option maxRecDepth 100000 in
theorem bdr_s {V : List Int} {W : Nat} {h h' : zH} (hf : ∀ c k, Nat.testBit W (bun c k) = false → h'.2.1 c k = h.2.1 c k) : ∀ {ov : bO} {k : bO → Bool}, bOV E V ov h → bdr W ov k = true → ∃ ov', bOV E V ov' h' ∧ k ov' = true
  | [], k, _, e => ⟨[], fun q hq => absurd hq List.not_mem_nil, e⟩
  | q :: ov, k, hO, e => by
    have e : cond (bdu q.1 q.2.1 W) (bdr W ov k) (bdr W ov fun r => k (q :: r)) = true := e
    have hO' : bOV E V ov h := fun p hp => hO p (List.mem_cons_of_mem _ hp)
    cases h1 : bdu q.1 q.2.1 W with
    | true =>
      rw [h1, cond_true] at e
      exact bdr_s hf hO' e
    | false =>
      rw [h1, cond_false] at e
      obtain ⟨ov', g1, g2⟩ := bdr_s hf hO' e
      refine ⟨q :: ov', ?_, g2⟩
      intro p hp
      cases hp with
      | tail _ hp => exact g1 p hp
      | head =>
        obtain ⟨j, f1, f2⟩ := hO q List.mem_cons_self
        refine ⟨j, f1, ?_⟩
        rw [bdu_s hf f1 h1]
        exact f2
end BMT
