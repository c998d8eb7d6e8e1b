abbrev bV : Type := (Int × List (Nat × Int)) ⊕ (Value ⊕ (Int × List (Nat × Int)))
abbrev bLs : Type := List (Option bV)
abbrev bSt : Type := List bV
def bVR (V : List Int) : bV → Value → Prop
  | .inl c, v => ∃ x, v = .int x ∧ brel V c x.toInt
  | .inr (.inl w), v => v = w
  | .inr (.inr c), v => ∃ x, v = .long x ∧ brel V c x.toInt
def bKR (V : List Int) : bSt → List Value → Prop
  | [], [] => True
  | a :: l, v :: m => bVR V a v ∧ bKR V l m
  | [], _ :: _ => False
  | _ :: _, [] => False
def boR (V : List Int) : Option bV → Option Value → Prop
  | none, _ => True
  | some a, o => ∃ v, o = some v ∧ bVR V a v
def bLR (V : List Int) : bLs → zLs → Prop
  | [], [] => True
  | a :: l, v :: m => boR V a v ∧ bLR V l m
  | [], _ :: _ => False
  | _ :: _, [] => False
set_option maxRecDepth 100000 in
theorem bVR_up {V V' : List Int} (h : bxt V V') {a : bV} {v : Value} (e : bVR V a v) : bVR V' a v := by
  cases a with
  | inl c => obtain ⟨x, h1, h2⟩ := e; exact ⟨x, h1, brel_up h h2⟩
  | inr w =>
    cases w with
    | inl w => exact e
    | inr c => obtain ⟨x, h1, h2⟩ := e; exact ⟨x, h1, brel_up h h2⟩
set_option maxRecDepth 100000 in
theorem bKR_up {V V' : List Int} (h : bxt V V') : ∀ {a : bSt} {s : List Value}, bKR V a s → bKR V' a s
  | [], [], _ => trivial
  | [], _ :: _, h => h.elim
  | _ :: _, [], h => h.elim
  | _ :: _, _ :: _, e => ⟨bVR_up h e.1, bKR_up h e.2⟩
set_option maxRecDepth 100000 in
theorem boR_up {V V' : List Int} (h : bxt V V') {a : Option bV} {o : Option Value} (e : boR V a o) : boR V' a o := by
  cases a with
  | none => exact trivial
  | some a => obtain ⟨v, h1, h2⟩ := e; exact ⟨v, h1, bVR_up h h2⟩
set_option maxRecDepth 100000 in
theorem bLR_up {V V' : List Int} (h : bxt V V') : ∀ {a : bLs} {l : zLs}, bLR V a l → bLR V' a l
  | [], [], _ => trivial
  | [], _ :: _, h => h.elim
  | _ :: _, [], h => h.elim
  | _ :: _, _ :: _, e => ⟨boR_up h e.1, bLR_up h e.2⟩
set_option maxRecDepth 100000 in
theorem bKR_ci {V : List Int} {c : bI} {x : Int32} {a : bSt} {s : List Value} (h : brel V c x.toInt) (hs : bKR V a s) : bKR V (.inl c :: a) (.int x :: s) := ⟨⟨x, rfl, h⟩, hs⟩
set_option maxRecDepth 100000 in
theorem bKR_cj {V : List Int} {c : bI} {x : Int64} {a : bSt} {s : List Value} (h : brel V c x.toInt) (hs : bKR V a s) : bKR V (.inr (.inr c) :: a) (.long x :: s) := ⟨⟨x, rfl, h⟩, hs⟩
set_option maxRecDepth 100000 in
theorem bKR_co {V : List Int} {w : Value} {a : bSt} {s : List Value} (hs : bKR V a s) : bKR V (.inr (.inl w) :: a) (w :: s) := ⟨rfl, hs⟩
set_option maxRecDepth 100000 in
theorem bKR_cv {V : List Int} {v : bV} {w : Value} {a : bSt} {s : List Value} (h : bVR V v w) (hs : bKR V a s) : bKR V (v :: a) (w :: s) := ⟨h, hs⟩
set_option maxRecDepth 100000 in
theorem bKR_i {V : List Int} {c : bI} {a : bSt} : ∀ {s : List Value}, bKR V (.inl c :: a) s → ∃ x r, s = .int x :: r ∧ brel V c x.toInt ∧ bKR V a r
  | [], h => nomatch h
  | _ :: r, ⟨⟨x, e, h1⟩, h2⟩ => ⟨x, r, by rw [e], h1, h2⟩
set_option maxRecDepth 100000 in
theorem bKR_j {V : List Int} {c : bI} {a : bSt} : ∀ {s : List Value}, bKR V (.inr (.inr c) :: a) s → ∃ x r, s = .long x :: r ∧ brel V c x.toInt ∧ bKR V a r
  | [], h => nomatch h
  | _ :: r, ⟨⟨x, e, h1⟩, h2⟩ => ⟨x, r, by rw [e], h1, h2⟩
set_option maxRecDepth 100000 in
theorem bKR_o {V : List Int} {w : Value} {a : bSt} : ∀ {s : List Value}, bKR V (.inr (.inl w) :: a) s → ∃ r, s = w :: r ∧ bKR V a r
  | [], h => nomatch h
  | _ :: r, ⟨e, h2⟩ => ⟨r, by rw [show _ = w from e], h2⟩
set_option maxRecDepth 100000 in
theorem bKR_v {V : List Int} {v : bV} {a : bSt} : ∀ {s : List Value}, bKR V (v :: a) s → ∃ w r, s = w :: r ∧ bVR V v w ∧ bKR V a r
  | [], h => nomatch h
  | w :: r, ⟨e, h2⟩ => ⟨w, r, rfl, e, h2⟩
set_option maxRecDepth 100000 in
theorem bKR_n {V : List Int} : ∀ {s : List Value}, bKR V [] s → s = []
  | [], _ => rfl
  | _ :: _, h => nomatch h
set_option maxRecDepth 100000 in
theorem bLR_at {V : List Int} : ∀ {a : bLs} {l : zLs} {i : Nat} {v : bV}, bLR V a l → zat a i = some (some v) → ∃ w, zat l i = some (some w) ∧ bVR V v w
  | [], _, _, _, _, h => nomatch h
  | _ :: _, [], _, _, h, _ => nomatch h
  | o :: a, p :: l, 0, v, h, e => by
    cases (Option.some.inj e)
    obtain ⟨w, e1, h1⟩ := h.1
    exact ⟨w, congrArg some e1, h1⟩
  | o :: a, p :: l, i + 1, v, h, e => bLR_at (a := a) (l := l) h.2 e
def bKl (n : Nat) (o : Option bV) : Option bV := match n with
  | 0 => (match o with
    | none => none
    | some (.inl c) => some (.inl c)
    | some (.inr (.inl (.long _))) => none
    | some (.inr (.inl w)) => some (.inr (.inl w))
    | some (.inr (.inr _)) => none)
  | _ + 1 => o
noncomputable def bkl (n : Nat) (o : Option bV) (k : Option bV → Bool) : Bool := match n with
  | 0 => (match o with
    | none => k none
    | some (.inl c) => k (some (.inl c))
    | some (.inr (.inl (.long _))) => k none
    | some (.inr (.inl w)) => k (some (.inr (.inl w)))
    | some (.inr (.inr _)) => k none)
  | _ + 1 => k o
set_option maxRecDepth 100000 in
theorem bkl_eq (n : Nat) (o : Option bV) (k : Option bV → Bool) : bkl n o k = k (bKl n o) := by
  cases n with
  | succ n => rfl
  | zero =>
    cases o with
    | none => rfl
    | some a =>
      cases a with
      | inl c => rfl
      | inr w =>
        cases w with
        | inr c => rfl
        | inl w => cases w <;> rfl
noncomputable def bst (v : bV) (n : Nat) : bLs → (bLs → Bool) → Bool := Nat.rec (motive := fun _ => bLs → (bLs → Bool) → Bool)
  (fun l k => List.rec (motive := fun _ => Bool) (k []) (fun _ t _ => k (some v :: t)) l)
  (fun m ih l k => List.rec (motive := fun _ => Bool) (k []) (fun o t _ => bkl m o (fun o' => ih t (fun r => k (o' :: r)))) l) n
def bsl2 (v : bV) : Nat → bLs → bLs
  | _, [] => []
  | 0, _ :: t => some v :: t
  | n + 1, o :: t => bKl n o :: bsl2 v n t
set_option maxRecDepth 100000 in
theorem bst_eq (v : bV) : ∀ (n : Nat) (l : bLs) (k : bLs → Bool), bst v n l k = k (bsl2 v n l)
  | 0, [], _ => rfl
  | 0, _ :: _, _ => rfl
  | n + 1, [], k => rfl
  | n + 1, o :: t, k => by
    show bkl n o (fun o' => bst v n t (fun r => k (o' :: r))) = _
    rw [bkl_eq, bst_eq v n t]
    rfl
set_option maxRecDepth 100000 in
theorem bKl_s {V : List Int} {n : Nat} {a : Option bV} {o : Option Value} (h : boR V a o) : boR V (bKl n a) (zkl n o) := by
  cases n with
  | succ n => exact h
  | zero =>
    cases a with
    | none => exact trivial
    | some a =>
      obtain ⟨v, e, hv⟩ := h
      subst e
      cases a with
      | inl c =>
        obtain ⟨x, e, hx⟩ := hv
        subst e
        exact ⟨_, rfl, _, rfl, hx⟩
      | inr w =>
        cases w with
        | inl w =>
          have e : v = w := hv
          subst e
          cases v <;> first | exact trivial | exact ⟨_, rfl, rfl⟩
        | inr c => exact trivial
set_option maxRecDepth 100000 in
theorem bst_s {V : List Int} {v : bV} {w : Value} (hv : bVR V v w) : ∀ {n : Nat} {a : bLs} {l : zLs}, bLR V a l → bLR V (bsl2 v n a) (zstl l n w)
  | 0, [], [], _ => trivial
  | _ + 1, [], [], _ => trivial
  | 0, [], _ :: _, h => nomatch h
  | _ + 1, [], _ :: _, h => nomatch h
  | 0, _ :: _, [], h => nomatch h
  | _ + 1, _ :: _, [], h => nomatch h
  | 0, _ :: a, _ :: l, h => ⟨⟨w, rfl, hv⟩, h.2⟩
  | n + 1, o :: a, p :: l, h => ⟨bKl_s h.1, bst_s hv (n := n) h.2⟩
set_option maxRecDepth 100000 in
theorem bLR_none {V : List Int} : ∀ {a : bLs} {l : zLs} {i : Nat}, bLR V a l → bLR V (zset a i none) (zset l i none)
  | [], [], _, _ => trivial
  | [], _ :: _, _, h => h.elim
  | _ :: _, [], _, h => h.elim
  | _ :: _, _ :: _, 0, h => ⟨trivial, h.2⟩
  | _ :: a, _ :: l, i + 1, h => ⟨h.1, bLR_none (a := a) (l := l) (i := i) h.2⟩
noncomputable def bsn (n : Nat) : bLs → (bLs → Bool) → Bool := Nat.rec (motive := fun _ => bLs → (bLs → Bool) → Bool)
  (fun l k => List.rec (motive := fun _ => Bool) (k []) (fun _ t _ => k (none :: t)) l)
  (fun _ ih l k => List.rec (motive := fun _ => Bool) (k []) (fun o t _ => ih t (fun r => k (o :: r))) l) n
set_option maxRecDepth 100000 in
theorem bsn_eq : ∀ (n : Nat) (l : bLs) (k : bLs → Bool), bsn n l k = k (zset l n none)
  | 0, [], _ => rfl
  | 0, _ :: _, _ => rfl
  | _ + 1, [], _ => rfl
  | n + 1, o :: t, k => bsn_eq n t (fun r => k (o :: r))
def bcw : bV → Nat
  | .inl _ => 1
  | .inr (.inl w) => zcw w
  | .inr (.inr _) => 2
set_option maxRecDepth 100000 in
theorem bcw_s {V : List Int} {a : bV} {v : Value} (h : bVR V a v) : zcw v = bcw a := by
  cases a with
  | inl c => obtain ⟨x, e, -⟩ := h; subst e; rfl
  | inr w =>
    cases w with
    | inl w => have e : v = w := h; subst e; rfl
    | inr c => obtain ⟨x, e, -⟩ := h; subst e; rfl
noncomputable def bsu : bSt → Nat := fun l => List.rec (motive := fun _ => Nat) 0 (fun v _ ih => bcw v + ih) l
set_option maxRecDepth 100000 in
theorem bsu_s {V : List Int} : ∀ {a : bSt} {s : List Value}, bKR V a s → zsum s = bsu a
  | [], [], _ => rfl
  | [], _ :: _, h => nomatch h
  | _ :: _, [], h => nomatch h
  | v :: a, w :: s, h => by
    show zcw w + zsum s = bcw v + bsu a
    rw [bsu_s h.2, bcw_s h.1]
def bc1 : bV → Bool
  | .inl _ => true
  | .inr (.inl w) => zc1 w
  | .inr (.inr _) => false
set_option maxRecDepth 100000 in
theorem bc1_s {V : List Int} {a : bV} {v : Value} (h : bVR V a v) : zc1 v = bc1 a := by
  cases a with
  | inl c => obtain ⟨x, e, -⟩ := h; subst e; rfl
  | inr w =>
    cases w with
    | inl w => have e : v = w := h; subst e; rfl
    | inr c => obtain ⟨x, e, -⟩ := h; subst e; rfl
set_option maxRecDepth 100000 in
theorem bal_s {V : List Int} : ∀ {a : bSt} {s : List Value}, bKR V a s → s.all zc1 = a.all bc1
  | [], [], _ => rfl
  | [], _ :: _, h => nomatch h
  | _ :: _, [], h => nomatch h
  | a :: l, v :: s, h => by
    rw [List.all_cons, List.all_cons, bc1_s h.1, bal_s h.2]
noncomputable def bpop (n : Nat) : bSt → bSt → (bSt → bSt → Bool) → Bool := Nat.rec (motive := fun _ => bSt → bSt → (bSt → bSt → Bool) → Bool)
  (fun st acc k => k acc st)
  (fun _ ih st acc k => List.rec (motive := fun _ => Bool) false (fun v t _ => ih t (v :: acc) k) st) n
set_option maxRecDepth 100000 in
theorem bpop_s {V : List Int} : ∀ {n : Nat} {a b : bSt} {s t : List Value} {k : bSt → bSt → Bool}, bKR V a s → bKR V b t → bpop n a b k = true → ∃ as ar ss sr, zpop n s t = some (ss, sr) ∧ bKR V as ss ∧ bKR V ar sr ∧ k as ar = true
  | 0, a, b, s, t, k, h1, h2, h => ⟨b, a, t, s, rfl, h2, h1, h⟩
  | n + 1, [], _, _, _, _, _, _, h => nomatch h
  | n + 1, v :: a, b, [], t, k, h1, _, _ => nomatch h1
  | n + 1, v :: a, b, w :: s, t, k, h1, h2, h => bpop_s (n := n) (a := a) (b := v :: b) (s := s) (t := w :: t) (k := k) h1.2 ⟨h1.1, h2⟩ h
noncomputable def brep (n : Nat) : (bLs → Bool) → Bool := Nat.rec (motive := fun _ => (bLs → Bool) → Bool) (fun k => k []) (fun _ ih k => ih (fun r => k (none :: r))) n
set_option maxRecDepth 100000 in
theorem brep_eq : ∀ (n : Nat) (k : bLs → Bool), brep n k = k (List.replicate n none)
  | 0, _ => rfl
  | n + 1, k => brep_eq n (fun r => k (none :: r))
noncomputable def bent (l : bSt) : Nat → (bLs → Bool) → Bool := List.rec (motive := fun _ => Nat → (bLs → Bool) → Bool) (fun n k => brep n k)
  (fun v _ ih n k => Nat.rec (motive := fun _ => Bool) false (fun m _ => ih m (fun r => k (some v :: r))) n) l
set_option maxRecDepth 100000 in
theorem bLR_rep (V : List Int) : ∀ n : Nat, bLR V (List.replicate n none) (List.replicate n none)
  | 0 => trivial
  | n + 1 => ⟨trivial, bLR_rep V n⟩
set_option maxRecDepth 100000 in
theorem bent_s {V : List Int} : ∀ {a : bSt} {s : List Value} {n : Nat} {k : bLs → Bool}, bKR V a s → bent a n k = true → ∃ l, bLR V l (zent n s) ∧ k l = true
  | [], [], n, k, _, h => ⟨List.replicate n none, bLR_rep V n, (brep_eq n k).symm.trans (show brep n k = true from h)⟩
  | [], _ :: _, _, _, h, _ => nomatch h
  | _ :: _, [], _, _, h, _ => nomatch h
  | _ :: _, _ :: _, 0, _, _, h => nomatch h
  | v :: a, w :: s, n + 1, k, h1, h => by
    obtain ⟨l, h2, h3⟩ := bent_s (a := a) (s := s) (n := n) (k := fun r => k (some v :: r)) h1.2 h
    refine ⟨some v :: l, ?_, h3⟩
    have e : zent (n + 1) (w :: s) = some w :: zent n s := by
      unfold zent
      rw [List.length_cons, Nat.add_sub_add_right]
      rfl
    rw [e]
    exact ⟨⟨w, rfl, h1.1⟩, h2⟩
