noncomputable def b_ldI (k : bSt → Bool) (ls : bLs) (i : Nat) (st : bSt) : Bool := match agt ls i with
  | some (some (.inl c)) => k (.inl c :: st)
  | _ => false
noncomputable def b_ldJ (k : bSt → Bool) (ls : bLs) (i : Nat) (st : bSt) : Bool := match agt ls i with
  | some (some (.inr (.inr c))) => k (.inr (.inr c) :: st)
  | _ => false
noncomputable def b_ldA (k : bSt → Bool) (ls : bLs) (i : Nat) (st : bSt) : Bool := match agt ls i with
  | some (some (.inr (.inl w))) => cond (zisA w) (k (.inr (.inl w) :: st)) false
  | _ => false
noncomputable def b_stI (k : bLs → bSt → Bool) (ls : bLs) (i : Nat) (st : bSt) : Bool := match st with
  | .inl c :: r => bst (.inl c) i ls fun l => k l r
  | _ => false
noncomputable def b_stJ (k : bLs → bSt → Bool) (ls : bLs) (i : Nat) (st : bSt) : Bool := match st with
  | .inr (.inr c) :: r => bst (.inr (.inr c)) i ls fun l => afo (i + 1) fun i => bsn i l fun l => k l r
  | _ => false
noncomputable def b_stA (k : bLs → bSt → Bool) (ls : bLs) (i : Nat) (st : bSt) : Bool := match st with
  | .inr (.inl (.ref x)) :: r => bst (.inr (.inl (.ref x))) i ls fun l => k l r
  | .inr (.inl (.double x)) :: r => bst (.inr (.inl (.double x))) i ls fun l => k l r
  | _ => false
noncomputable def b_inc (k : bS → bLs → Bool) (S : bS) (ls : bLs) (i : Nat) (z : Int32) : Bool := match agt ls i with
  | some (some (.inl c)) => bfo z.toInt fun zi => bo_add (zi, []) c S fun f S => bst (.inl f) i ls fun l => k S l
  | _ => false
noncomputable def b_b2 (o : bI → bI → bS → (bI → bS → Bool) → Bool) (k : bS → bSt → Bool) (S : bS) (st : bSt) : Bool := match st with
  | .inl b :: .inl a :: r => o b a S fun f S => k S (.inl f :: r)
  | _ => false
noncomputable def b_l2 (k : bS → bSt → Bool) (S : bS) (st : bSt) : Bool := match st with
  | .inr (.inr _) :: .inr (.inr _) :: r => bfre (-9223372036854775808) 9223372036854775807 S fun f S => k S (.inr (.inr f) :: r)
  | _ => false
noncomputable def b_ldiv (k : bS → bSt → Bool) (S : bS) (st : bSt) : Bool := match st with
  | .inr (.inr y) :: .inr (.inr _) :: r => brS y S fun lo hi => cond (cond (bLe 1 lo) true (bLe hi (-1))) (bfre (-9223372036854775808) 9223372036854775807 S fun f S => k S (.inr (.inr f) :: r)) false
  | _ => false
noncomputable def b_lcmp (k : bS → bSt → Bool) (S : bS) (st : bSt) : Bool := match st with
  | .inr (.inr y) :: .inr (.inr x) :: r => bl2 y x S (fun S => k S (.inl (1, []) :: r)) (fun S => bq2 x y S (fun S => k S (.inl (0, []) :: r)) (fun S => k S (.inl (-1, []) :: r)))
  | _ => false
noncomputable def b_i2l (k : bSt → Bool) (st : bSt) : Bool := match st with
  | .inl x :: r => k (.inr (.inr x) :: r)
  | _ => false
noncomputable def b_l2i (k : bS → bSt → Bool) (S : bS) (st : bSt) : Bool := match st with
  | .inr (.inr x) :: r => bw32 x S fun f S => k S (.inl f :: r)
  | _ => false
noncomputable def b_by (x : bI) (S : bS) (k : bI → bS → Bool) : Bool := cond (bwi x (-128) 127 S) (k x S) (bfre (-128) 127 S k)
noncomputable def b_i2b (k : bS → bSt → Bool) (S : bS) (st : bSt) : Bool := match st with
  | .inl x :: r => b_by x S fun f S => k S (.inl f :: r)
  | _ => false
noncomputable def b_div (o : bI → bI → bS → (bI → bS → Bool) → Bool) (k : bS → bSt → Bool) (S : bS) (st : bSt) : Bool := match st with
  | .inl b :: .inl a :: r => o b a S fun f S => k S (.inl f :: r)
  | _ => false
noncomputable def b_if1 (k : bS → Nat → bSt → Bool) (S : bS) (c : ClassFile.Cond) (t p : Nat) (st : bSt) : Bool := match st with
  | .inl x :: r => (match c with
    | .eq => bq2 x (0, []) S (fun S => k S t r) (fun S => k S p r)
    | .ne => bq2 x (0, []) S (fun S => k S p r) (fun S => k S t r)
    | .lt => bl2 x (0, []) S (fun S => k S t r) (fun S => k S p r)
    | .ge => bl2 x (0, []) S (fun S => k S p r) (fun S => k S t r)
    | .gt => bl2 (0, []) x S (fun S => k S t r) (fun S => k S p r)
    | .le => bl2 (0, []) x S (fun S => k S p r) (fun S => k S t r))
  | _ => false
noncomputable def b_if2 (k : bS → Nat → bSt → Bool) (S : bS) (c : ClassFile.Cond) (t p : Nat) (st : bSt) : Bool := match st with
  | .inl y :: .inl x :: r => (match c with
    | .eq => bq2 x y S (fun S => k S t r) (fun S => k S p r)
    | .ne => bq2 x y S (fun S => k S p r) (fun S => k S t r)
    | .lt => bl2 x y S (fun S => k S t r) (fun S => k S p r)
    | .ge => bl2 x y S (fun S => k S p r) (fun S => k S t r)
    | .gt => bl2 y x S (fun S => k S t r) (fun S => k S p r)
    | .le => bl2 y x S (fun S => k S p r) (fun S => k S t r))
  | _ => false
noncomputable def b_nul (k : Nat → bSt → Bool) (t p : Nat) (st : bSt) : Bool := match st with
  | .inr (.inl .null) :: r => k t r
  | .inr (.inl (.ref _)) :: r => k p r
  | _ => false
noncomputable def b_get (tb : bTb) (k : bS → bSt → Bool) (S : bS) (ci fk : Nat) (st : bSt) : Bool := match st with
  | .inr (.inl (.ref a)) :: r => (match bg2 tb a with
    | some (.inr (.inl (c, sl))) => cond (Nat.beq c ci) (match agt sl fk with
      | some none => brr a (.ofNat fk, []) S fun f S => k S (.inl f :: r)
      | some (some none) => k S (.inr (.inl .null) :: r)
      | some (some (some o)) => k S (.inr (.inl (.ref o)) :: r)
      | none => false) false
    | _ => false)
  | _ => false
noncomputable def b_put (tb : bTb) (W : Nat) (k : bS → bSt → Bool) (S : bS) (ci fk : Nat) (z : Int32) (st : bSt) : Bool := match st with
  | .inl y :: .inr (.inl (.ref a)) :: r => (match bg2 tb a with
    | some (.inr (.inl (c, sl))) => cond (Nat.beq c ci) (match agt sl fk with
      | some none => cond (cond (bie z.toInt 0) true (bwi y 0 1 S)) (bwr W a (.ofNat fk, []) y S fun S => k S r) false
      | _ => false) false
    | _ => false)
  | _ => false
noncomputable def b_arr (tb : bTb) (t a : Nat) (k : Nat → Bool) : Bool := match bg2 tb a with
  | some (.inl (t', n, _)) => cond (Nat.beq t' t) (k n) false
  | _ => false
noncomputable def b_ix (j : bI) (n : Nat) (S : bS) : Bool := bfo ((n : Int) - 1) fun m => bwi j 0 m S
noncomputable def b_ald (tb : bTb) (sc : Option bI) (k : bS → bSt → Bool) (S : bS) (st : bSt) : Bool := match st with
  | .inl j :: .inr (.inl (.ref a)) :: r => b_arr tb 0 a fun n => cond (b_ix j n S) (brr a j S fun f S => k S (.inl f :: r)) false
  | .inl j :: .inr (.inl (.float _)) :: r => (match sc with
    | some N => cond (bch j S) (bsum (-1) j N fun d => bsum 1 (-1, []) d fun d => cond (bch d S) (brd 1000000 j (-2147483648) 2147483647 S fun f S => k S (.inl f :: r)) false) false
    | none => false)
  | _ => false
noncomputable def b_aldB (tb : bTb) (k : bS → bSt → Bool) (S : bS) (st : bSt) : Bool := match st with
  | .inl j :: .inr (.inl (.ref a)) :: r => b_arr tb 1 a fun n => cond (b_ix j n S) (brr a j S fun f S => k S (.inl f :: r)) false
  | _ => false
noncomputable def b_aldJ (tb : bTb) (k : bS → bSt → Bool) (S : bS) (st : bSt) : Bool := match st with
  | .inl j :: .inr (.inl (.ref a)) :: r => b_arr tb 2 a fun n => cond (b_ix j n S) (bfre (-9223372036854775808) 9223372036854775807 S fun f S => k S (.inr (.inr f) :: r)) false
  | _ => false
noncomputable def b_aldA (tb : bTb) (k : bSt → Bool) (st : bSt) : Bool := match st with
  | .inl (.ofNat j, []) :: .inr (.inl (.ref a)) :: r => (match bg2 tb a with
    | some (.inl (t, n, rf)) => cond (Nat.ble 3 t) (cond (Nat.blt j n) (match agt rf j with
      | some none => k (.inr (.inl .null) :: r)
      | some (some o) => k (.inr (.inl (.ref o)) :: r)
      | none => false) false) false
    | _ => false)
  | _ => false
noncomputable def b_ast (tb : bTb) (W : Nat) (k : bS → bSt → Bool) (S : bS) (st : bSt) : Bool := match st with
  | .inl x :: .inl j :: .inr (.inl (.ref a)) :: r => b_arr tb 0 a fun n => cond (b_ix j n S) (bwr W a j x S fun S => k S r) false
  | _ => false
noncomputable def b_astB (tb : bTb) (W : Nat) (k : bS → bSt → Bool) (S : bS) (st : bSt) : Bool := match st with
  | .inl x :: .inl j :: .inr (.inl (.ref a)) :: r => b_arr tb 1 a fun n => cond (b_ix j n S) (b_by x S fun x S => bwr W a j x S fun S => k S r) false
  | _ => false
noncomputable def b_astJ (tb : bTb) (k : bS → bSt → Bool) (S : bS) (st : bSt) : Bool := match st with
  | .inr (.inr _) :: .inl j :: .inr (.inl (.ref a)) :: r => b_arr tb 2 a fun n => cond (b_ix j n S) (k S r) false
  | _ => false
noncomputable def b_len (tb : bTb) (sc : Option bI) (k : bSt → Bool) (st : bSt) : Bool := match st with
  | .inr (.inl (.ref a)) :: r => (match bg2 tb a with
    | some (.inl (_, n, _)) => cond (Nat.blt n 2147483648) (k (.inl (.ofNat n, []) :: r)) false
    | _ => false)
  | .inr (.inl (.float _)) :: r => (match sc with
    | some N => k (.inl N :: r)
    | none => false)
  | _ => false
noncomputable def b_recv (tb : bTb) (stc ci : Nat) (as : bSt) (r : Bool) : Bool := match stc with
  | 0 => (match as with
    | .inr (.inl (.ref k)) :: _ => (match bg2 tb k with
      | some (.inr (.inl (c, _))) => cond (Nat.beq c ci) r false
      | _ => false)
    | _ => false)
  | _ + 1 => r
set_option maxRecDepth 100000 in
theorem bfin9_lift {E : zE} {tb : bTb} {W : Nat} {h0 : zH} {V : List Int} {h : zH} {k : bI → bS → Bool} {x : Int} {p : Prop} (hb : bFin9 E tb W h0 V h k x) (hk : ∀ V' f S', bxt V V' → brel V' f x → bSS E tb W h0 V' S' h → k f S' = true → p) : p := by
  obtain ⟨V', f, S', h1, h2, h3, h4⟩ := hb
  exact hk V' f S' h1 h2 h3 h4
section BIN
variable {E : zE} {tb : bTb} {W : Nat} {h0 : zH} {P : Option zR → Prop} {V : List Int} {S : bS} {als : bLs} {ls : zLs} {a : bSt} {s : List Value} {h : zH}
/-- on with a stack -/
abbrev bKS (E : zE) (tb : bTb) (W : Nat) (h0 : zH) (P : Option zR → Prop) (V : List Int) (h : zH) (k : bS → bSt → Bool) (K : List Value → Option zR) : Prop := ∀ V' S' a s, bxt V V' → bSS E tb W h0 V' S' h → bKR V' a s → k S' a = true → P (K s)
abbrev bKH (E : zE) (tb : bTb) (W : Nat) (h0 : zH) (P : Option zR → Prop) (V : List Int) (k : bS → bSt → Bool) (K : List Value → zH → Option zR) : Prop := ∀ V' S' a s h', bxt V V' → bSS E tb W h0 V' S' h' → bKR V' a s → k S' a = true → P (K s h')
set_option maxRecDepth 100000 in
theorem b_ldI_s {k : bSt → Bool} {K : List Value → Option zR} {i : Nat} (hl : bLR V als ls) (hs : bKR V a s) (hk : ∀ a s, bKR V a s → k a = true → P (K s)) (e : b_ldI k als i a = true) : P (zldI K ls i s) := by
  unfold b_ldI at e
  rw [agt_eq] at e
  split at e
  · rename_i c hc
    obtain ⟨w, h1, x, h2, h3⟩ := bLR_at hl hc
    subst h2
    unfold zldI
    rw [h1]
    exact hk _ _ (bKR_ci h3 hs) e
  · cases e
set_option maxRecDepth 100000 in
theorem b_ldJ_s {k : bSt → Bool} {K : List Value → Option zR} {i : Nat} (hl : bLR V als ls) (hs : bKR V a s) (hk : ∀ a s, bKR V a s → k a = true → P (K s)) (e : b_ldJ k als i a = true) : P (zldJ K ls i s) := by
  unfold b_ldJ at e
  rw [agt_eq] at e
  split at e
  · rename_i c hc
    obtain ⟨w, h1, x, h2, h3⟩ := bLR_at hl hc
    subst h2
    unfold zldJ
    rw [h1]
    exact hk _ _ (bKR_cj h3 hs) e
  · cases e
set_option maxRecDepth 100000 in
theorem b_ldA_s {k : bSt → Bool} {K : List Value → Option zR} {i : Nat} (hl : bLR V als ls) (hs : bKR V a s) (hk : ∀ a s, bKR V a s → k a = true → P (K s)) (e : b_ldA k als i a = true) : P (zldA K ls i s) := by
  unfold b_ldA at e
  rw [agt_eq] at e
  split at e
  · rename_i v hc
    obtain ⟨w, h1, h2⟩ := bLR_at hl hc
    have h2 : w = v := h2
    subst h2
    obtain ⟨h3, e⟩ := bcnd e
    unfold zldA
    rw [h1]
    show P (cond (zisA w) (K (w :: s)) none)
    rw [h3]
    exact hk _ _ (bKR_co hs) e
  · cases e
set_option maxRecDepth 100000 in
theorem b_stI_s {k : bLs → bSt → Bool} {K : zLs → List Value → Option zR} {i : Nat} (hl : bLR V als ls) (hs : bKR V a s) (hk : ∀ l l' a s, bLR V l l' → bKR V a s → k l a = true → P (K l' s)) (e : b_stI k als i a = true) : P (zstI K ls i s) := by
  unfold b_stI at e
  split at e
  · rename_i c r
    obtain ⟨x, r', h1, h2, h3⟩ := bKR_i hs
    subst h1
    rw [bst_eq] at e
    exact hk _ _ _ _ (bst_s (v := .inl c) (w := .int x) ⟨x, rfl, h2⟩ hl) h3 e
  · cases e
set_option maxRecDepth 100000 in
theorem b_stJ_s {k : bLs → bSt → Bool} {K : zLs → List Value → Option zR} {i : Nat} (hl : bLR V als ls) (hs : bKR V a s) (hk : ∀ l l' a s, bLR V l l' → bKR V a s → k l a = true → P (K l' s)) (e : b_stJ k als i a = true) : P (zstJ K ls i s) := by
  unfold b_stJ at e
  split at e
  · rename_i c r
    obtain ⟨x, r', h1, h2, h3⟩ := bKR_j hs
    subst h1
    rw [bst_eq, afo_eq, bsn_eq] at e
    exact hk _ _ _ _ (bLR_none (bst_s (v := .inr (.inr c)) (w := .long x) ⟨x, rfl, h2⟩ hl)) h3 e
  · cases e
set_option maxRecDepth 100000 in
theorem b_stA_s {k : bLs → bSt → Bool} {K : zLs → List Value → Option zR} {i : Nat} (hl : bLR V als ls) (hs : bKR V a s) (hk : ∀ l l' a s, bLR V l l' → bKR V a s → k l a = true → P (K l' s)) (e : b_stA k als i a = true) : P (zstA K ls i s) := by
  unfold b_stA at e
  split at e
  · obtain ⟨r, h1, h3⟩ := bKR_o hs
    subst h1
    rw [bst_eq] at e
    exact hk _ _ _ _ (bst_s (v := .inr (.inl (.ref _))) (w := .ref _) rfl hl) h3 e
  · obtain ⟨r, h1, h3⟩ := bKR_o hs
    subst h1
    rw [bst_eq] at e
    exact hk _ _ _ _ (bst_s (v := .inr (.inl (.double _))) (w := .double _) rfl hl) h3 e
  · cases e
set_option maxRecDepth 100000 in
theorem b_inc_s {k : bS → bLs → Bool} {K : zLs → Option zR} {i : Nat} {z : Int32} (hS : bSS E tb W h0 V S h) (hl : bLR V als ls) (hk : ∀ V' S' l l', bxt V V' → bSS E tb W h0 V' S' h → bLR V' l l' → k S' l = true → P (K l')) (e : b_inc k S als i z = true) : P (zinc K ls i z) := by
  unfold b_inc at e
  rw [agt_eq] at e
  split at e
  · rename_i c hc
    obtain ⟨w, h1, x, h2, h3⟩ := bLR_at hl hc
    subst h2
    unfold zinc
    rw [h1]
    rw [bfo_eq] at e
    refine bfin9_lift (bo_add_s V S h c _ x z _ hS h3 (brel_c V _) e) ?_
    intro V' f S' g1 g2 g3 e
    rw [bst_eq] at e
    exact hk _ _ _ _ g1 g3 (bst_s (v := .inl f) (w := .int (x + z)) ⟨_, rfl, g2⟩ (bLR_up g1 hl)) e
  · cases e
set_option maxRecDepth 100000 in
theorem b_b2_s {o : bI → bI → bS → (bI → bS → Bool) → Bool} {g : Int32 → Int32 → Int32} (ho : bOp E tb W h0 o g) {k : bS → bSt → Bool} {K : List Value → Option zR} (hS : bSS E tb W h0 V S h) (hs : bKR V a s) (hk : bKS E tb W h0 P V h k K) (e : b_b2 o k S a = true) : P (zb2 K g s) := by
  unfold b_b2 at e
  split at e
  · obtain ⟨y, r, h1, h2, h3⟩ := bKR_i hs
    subst h1
    obtain ⟨x, r, h1, h4, h5⟩ := bKR_i h3
    subst h1
    refine bfin9_lift (ho V S h _ _ x y _ hS h4 h2 e) ?_
    intro V' f S' g1 g2 g3 e
    exact hk _ _ _ _ g1 g3 (bKR_ci g2 (bKR_up g1 h5)) e
  · cases e
set_option maxRecDepth 100000 in
theorem b_l2_s {g : Int64 → Int64 → Int64} {k : bS → bSt → Bool} {K : List Value → Option zR} (hS : bSS E tb W h0 V S h) (hs : bKR V a s) (hk : bKS E tb W h0 P V h k K) (e : b_l2 k S a = true) : P (zl2 K g s) := by
  unfold b_l2 at e
  split at e
  · obtain ⟨y, r, h1, h2, h3⟩ := bKR_j hs
    subst h1
    obtain ⟨x, r, h1, h4, h5⟩ := bKR_j h3
    subst h1
    obtain ⟨V', f, S', g1, g2, g3, e⟩ := bfre_s hS (bi64 (g x y)).1 (bi64 (g x y)).2 e
    exact hk _ _ _ _ g1 g3 (bKR_cj g2 (bKR_up g1 h5)) e
  · cases e
set_option maxRecDepth 100000 in
theorem b_ldiv_s {k : bS → bSt → Bool} {K : List Value → Option zR} (hS : bSS E tb W h0 V S h) (hs : bKR V a s) (hk : bKS E tb W h0 P V h k K) (e : b_ldiv k S a = true) : P (match (generalizing := false) s with
    | .long y :: .long x :: r => znzl y (K (.long (x / y) :: r))
    | _ => none) := by
  unfold b_ldiv at e
  split at e
  · obtain ⟨y, r, h1, h2, h3⟩ := bKR_j hs
    subst h1
    obtain ⟨x, r, h1, h4, h5⟩ := bKR_j h3
    subst h1
    obtain ⟨lo, hi, g1, g2, e⟩ := brS_s hS h2 e
    obtain ⟨c1, e⟩ := bcnd e
    have hy : ¬ y = 0 := by
      intro z
      have z2 : y.toInt = 0 := by rw [z]; decide
      cases c2 : bLe 1 lo with
      | true => have := bLe_iff.mp c2; omega
      | false =>
        rw [c2, cond_false] at c1
        have := bLe_iff.mp c1
        omega
    simp only
    unfold znzl
    rw [if_neg hy]
    obtain ⟨V', f, S', f1, f2, f3, e⟩ := bfre_s hS (bi64 (x / y)).1 (bi64 (x / y)).2 e
    exact hk _ _ _ _ f1 f3 (bKR_cj f2 (bKR_up f1 h5)) e
  · cases e
set_option maxRecDepth 100000 in
theorem blg (x y : Int64) : (y.toInt < x.toInt → lg_cmp x y = 1) ∧ (¬ y.toInt < x.toInt → x.toInt = y.toInt → lg_cmp x y = 0) ∧ (¬ y.toInt < x.toInt → ¬ x.toInt = y.toInt → lg_cmp x y = -1) := by
  unfold lg_cmp
  have h1 : x > y ↔ y.toInt < x.toInt := Int64.lt_iff_toInt_lt
  have h2 : x = y ↔ x.toInt = y.toInt := Int64.toInt_inj.symm
  refine ⟨fun g => ?_, fun g g' => ?_, fun g g' => ?_⟩
  · rw [if_pos (h1.mpr g)]
  · rw [if_neg (fun z => g (h1.mp z)), if_pos (h2.mpr g')]
  · rw [if_neg (fun z => g (h1.mp z)), if_neg (fun z => g' (h2.mp z))]
set_option maxRecDepth 100000 in
theorem b_lcmp_s {k : bS → bSt → Bool} {K : List Value → Option zR} (hS : bSS E tb W h0 V S h) (hs : bKR V a s) (hk : bKS E tb W h0 P V h k K) (e : b_lcmp k S a = true) : P (match (generalizing := false) s with
    | .long y :: .long x :: r => K (.int (lg_cmp x y) :: r)
    | _ => none) := by
  unfold b_lcmp at e
  split at e
  · obtain ⟨y, r, h1, h2, h3⟩ := bKR_j hs
    subst h1
    obtain ⟨x, r, h1, h4, h5⟩ := bKR_j h3
    subst h1
    simp only
    have q := bl2_s hS h2 h4 e
    obtain ⟨l1, l2, l3⟩ := blg x y
    by_cases g1 : y.toInt < x.toInt
    · obtain ⟨S', g2, e⟩ := q.1 g1
      rw [l1 g1]
      exact hk _ _ _ _ (bxt_refl V) g2 (bKR_ci (brel_c V 1) h5) e
    · obtain ⟨S', g2, e⟩ := q.2 g1
      have q := bq2_s g2 h4 h2 e
      by_cases g3 : x.toInt = y.toInt
      · obtain ⟨S', g4, e⟩ := q.1 g3
        rw [l2 g1 g3]
        exact hk _ _ _ _ (bxt_refl V) g4 (bKR_ci (brel_c V 0) h5) e
      · obtain ⟨S', g4, e⟩ := q.2 g3
        rw [l3 g1 g3]
        exact hk _ _ _ _ (bxt_refl V) g4 (bKR_ci (brel_c V (-1)) h5) e
  · cases e
set_option maxRecDepth 100000 in
theorem b_l2i_s {k : bS → bSt → Bool} {K : List Value → Option zR} (hS : bSS E tb W h0 V S h) (hs : bKR V a s) (hk : bKS E tb W h0 P V h k K) (e : b_l2i k S a = true) : P (match (generalizing := false) s with
    | .long x :: r => K (.int x.toInt32 :: r)
    | _ => none) := by
  unfold b_l2i at e
  split at e
  · obtain ⟨x, r, h1, h2, h3⟩ := bKR_j hs
    subst h1
    simp only
    refine bfin9_lift (bw32_s (x := x.toInt32) hS h2 (fun g1 g2 => by rw [Int64.toInt_toInt32, bbm g1 g2]) e) ?_
    intro V' f S' g1 g2 g3 e
    exact hk _ _ _ _ g1 g3 (bKR_ci g2 (bKR_up g1 h3)) e
  · cases e
set_option maxRecDepth 100000 in
theorem b_by_s (hS : bSS E tb W h0 V S h) {c : bI} {x : Int32} (hc : brel V c x.toInt) {k : bI → bS → Bool} (e : b_by c S k = true) : bFin9 E tb W h0 V h k x.toInt8.toInt32.toInt := by
  unfold b_by at e
  have h9 : x.toInt8.toInt32.toInt = x.toInt.bmod (2 ^ 8) := by rw [Int8.toInt_toInt32, Int32.toInt_toInt8]
  cases c1 : bwi c (-128) 127 S with
  | true =>
    rw [c1, cond_true] at e
    have c1 := bwi_s hS hc c1
    refine ⟨V, c, S, bxt_refl V, ?_, hS, e⟩
    rw [h9, Int.bmod_eq_of_le (by omega) (by omega)]
    exact hc
  | false =>
    rw [c1, cond_false] at e
    have h8 := Int.le_bmod (x := x.toInt) (m := 2 ^ 8) (by omega)
    have h7 := Int.bmod_lt (x := x.toInt) (m := 2 ^ 8) (by omega)
    exact bfre_s hS (by rw [h9]; omega) (by rw [h9]; omega) e
set_option maxRecDepth 100000 in
theorem b_if1_s {k : bS → Nat → bSt → Bool} {K : Nat → List Value → Option zR} {c : ClassFile.Cond} {t p : Nat} (hS : bSS E tb W h0 V S h) (hs : bKR V a s) (hk : ∀ S' a s p, bSS E tb W h0 V S' h → bKR V a s → k S' p a = true → P (K p s)) (e : b_if1 k S c t p a = true) : P (zif1 K c t p s) := by
  unfold b_if1 at e
  split at e
  · obtain ⟨x, r, h1, h2, h3⟩ := bKR_i hs
    subst h1
    have hz : (0 : Int32).toInt = 0 := by decide
    have hlt : ∀ y z : Int32, y < z ↔ y.toInt < z.toInt := fun y z => Int32.lt_iff_toInt_lt
    have hle : ∀ y z : Int32, y ≤ z ↔ ¬ z.toInt < y.toInt := fun y z => by rw [Int32.le_iff_toInt_le]; omega
    have heq : ∀ y z : Int32, y = z ↔ y.toInt = z.toInt := fun y z => Int32.toInt_inj.symm
    have h0' : brel V (0, []) (0 : Int32).toInt := by rw [hz]; exact brel_c V 0
    unfold zif1
    cases c with
    | eq =>
      simp only at e ⊢
      have q := bq2_s hS h2 h0' e
      by_cases hc : x = 0
      · rw [if_pos hc]
        obtain ⟨S', g, e⟩ := q.1 ((heq _ _).mp hc)
        exact hk _ _ _ _ g h3 e
      · rw [if_neg hc]
        obtain ⟨S', g, e⟩ := q.2 (fun z => hc ((heq _ _).mpr z))
        exact hk _ _ _ _ g h3 e
    | ne =>
      simp only at e ⊢
      have q := bq2_s hS h2 h0' e
      by_cases hc : x = 0
      · rw [if_pos hc]
        obtain ⟨S', g, e⟩ := q.1 ((heq _ _).mp hc)
        exact hk _ _ _ _ g h3 e
      · rw [if_neg hc]
        obtain ⟨S', g, e⟩ := q.2 (fun z => hc ((heq _ _).mpr z))
        exact hk _ _ _ _ g h3 e
    | lt =>
      simp only at e ⊢
      have q := bl2_s hS h2 h0' e
      by_cases hc : x < 0
      · rw [if_pos hc]
        obtain ⟨S', g, e⟩ := q.1 ((hlt _ _).mp hc)
        exact hk _ _ _ _ g h3 e
      · rw [if_neg hc]
        obtain ⟨S', g, e⟩ := q.2 (fun z => hc ((hlt _ _).mpr z))
        exact hk _ _ _ _ g h3 e
    | ge =>
      simp only at e ⊢
      have q := bl2_s hS h2 h0' e
      by_cases hc : 0 ≤ x
      · rw [if_pos hc]
        obtain ⟨S', g, e⟩ := q.2 ((hle _ _).mp hc)
        exact hk _ _ _ _ g h3 e
      · rw [if_neg hc]
        obtain ⟨S', g, e⟩ := q.1 (Decidable.of_not_not (fun z => hc ((hle _ _).mpr z)))
        exact hk _ _ _ _ g h3 e
    | gt =>
      simp only at e ⊢
      have q := bl2_s hS h0' h2 e
      by_cases hc : 0 < x
      · rw [if_pos hc]
        obtain ⟨S', g, e⟩ := q.1 ((hlt _ _).mp hc)
        exact hk _ _ _ _ g h3 e
      · rw [if_neg hc]
        obtain ⟨S', g, e⟩ := q.2 (fun z => hc ((hlt _ _).mpr z))
        exact hk _ _ _ _ g h3 e
    | le =>
      simp only at e ⊢
      have q := bl2_s hS h0' h2 e
      by_cases hc : x ≤ 0
      · rw [if_pos hc]
        obtain ⟨S', g, e⟩ := q.2 ((hle _ _).mp hc)
        exact hk _ _ _ _ g h3 e
      · rw [if_neg hc]
        obtain ⟨S', g, e⟩ := q.1 (Decidable.of_not_not (fun z => hc ((hle _ _).mpr z)))
        exact hk _ _ _ _ g h3 e
  · cases e
set_option maxRecDepth 100000 in
theorem b_if2_s {k : bS → Nat → bSt → Bool} {K : Nat → List Value → Option zR} {c : ClassFile.Cond} {t p : Nat} (hS : bSS E tb W h0 V S h) (hs : bKR V a s) (hk : ∀ S' a s p, bSS E tb W h0 V S' h → bKR V a s → k S' p a = true → P (K p s)) (e : b_if2 k S c t p a = true) : P (zif2 K c t p s) := by
  unfold b_if2 at e
  split at e
  · obtain ⟨y, r, h1, hy, h3⟩ := bKR_i hs
    subst h1
    obtain ⟨x, r, h1, h2, h5⟩ := bKR_i h3
    subst h1
    have hlt : ∀ y z : Int32, y < z ↔ y.toInt < z.toInt := fun y z => Int32.lt_iff_toInt_lt
    have hle : ∀ y z : Int32, y ≤ z ↔ ¬ z.toInt < y.toInt := fun y z => by rw [Int32.le_iff_toInt_le]; omega
    have heq : ∀ y z : Int32, y = z ↔ y.toInt = z.toInt := fun y z => Int32.toInt_inj.symm
    unfold zif2
    cases c with
    | eq =>
      simp only at e ⊢
      have q := bq2_s hS h2 hy e
      by_cases hc : x = y
      · rw [if_pos hc]
        obtain ⟨S', g, e⟩ := q.1 ((heq _ _).mp hc)
        exact hk _ _ _ _ g h5 e
      · rw [if_neg hc]
        obtain ⟨S', g, e⟩ := q.2 (fun z => hc ((heq _ _).mpr z))
        exact hk _ _ _ _ g h5 e
    | ne =>
      simp only at e ⊢
      have q := bq2_s hS h2 hy e
      by_cases hc : x = y
      · rw [if_pos hc]
        obtain ⟨S', g, e⟩ := q.1 ((heq _ _).mp hc)
        exact hk _ _ _ _ g h5 e
      · rw [if_neg hc]
        obtain ⟨S', g, e⟩ := q.2 (fun z => hc ((heq _ _).mpr z))
        exact hk _ _ _ _ g h5 e
    | lt =>
      simp only at e ⊢
      have q := bl2_s hS h2 hy e
      by_cases hc : x < y
      · rw [if_pos hc]
        obtain ⟨S', g, e⟩ := q.1 ((hlt _ _).mp hc)
        exact hk _ _ _ _ g h5 e
      · rw [if_neg hc]
        obtain ⟨S', g, e⟩ := q.2 (fun z => hc ((hlt _ _).mpr z))
        exact hk _ _ _ _ g h5 e
    | ge =>
      simp only at e ⊢
      have q := bl2_s hS h2 hy e
      by_cases hc : y ≤ x
      · rw [if_pos hc]
        obtain ⟨S', g, e⟩ := q.2 ((hle _ _).mp hc)
        exact hk _ _ _ _ g h5 e
      · rw [if_neg hc]
        obtain ⟨S', g, e⟩ := q.1 (Decidable.of_not_not (fun z => hc ((hle _ _).mpr z)))
        exact hk _ _ _ _ g h5 e
    | gt =>
      simp only at e ⊢
      have q := bl2_s hS hy h2 e
      by_cases hc : y < x
      · rw [if_pos hc]
        obtain ⟨S', g, e⟩ := q.1 ((hlt _ _).mp hc)
        exact hk _ _ _ _ g h5 e
      · rw [if_neg hc]
        obtain ⟨S', g, e⟩ := q.2 (fun z => hc ((hlt _ _).mpr z))
        exact hk _ _ _ _ g h5 e
    | le =>
      simp only at e ⊢
      have q := bl2_s hS hy h2 e
      by_cases hc : x ≤ y
      · rw [if_pos hc]
        obtain ⟨S', g, e⟩ := q.2 ((hle _ _).mp hc)
        exact hk _ _ _ _ g h5 e
      · rw [if_neg hc]
        obtain ⟨S', g, e⟩ := q.1 (Decidable.of_not_not (fun z => hc ((hle _ _).mpr z)))
        exact hk _ _ _ _ g h5 e
  · cases e
set_option maxRecDepth 100000 in
theorem b_nul_s {k : Nat → bSt → Bool} {K : Nat → List Value → Option zR} {t p : Nat} (hs : bKR V a s) (hk : ∀ a s p, bKR V a s → k p a = true → P (K p s)) (e : b_nul k t p a = true) : P (znul K t p s) := by
  unfold b_nul at e
  split at e
  · obtain ⟨r, h1, h3⟩ := bKR_o hs
    subst h1
    exact hk _ _ _ h3 e
  · obtain ⟨r, h1, h3⟩ := bKR_o hs
    subst h1
    exact hk _ _ _ h3 e
  · cases e
set_option maxRecDepth 100000 in
theorem b_get_s {k : bS → bSt → Bool} {K : List Value → Option zR} {ci fk : Nat} (hS : bSS E tb W h0 V S h) (hs : bKR V a s) (hk : bKS E tb W h0 P V h k K) (e : b_get tb k S ci fk a = true) : P (zget K h ci fk s) := by
  unfold b_get at e
  split at e
  · obtain ⟨r, h1, h3⟩ := bKR_o hs
    subst h1
    split at e
    · rename_i c sl hg
      have h4 := hS.2.2.2.2.2.2.1 _ _ hg (by intro z; cases z)
      obtain ⟨h6, e⟩ := bcnd e
      unfold zget
      simp only
      rw [h4]
      simp only
      rw [h6, cond_true]
      rw [agt_eq] at e
      split at e <;> rename_i hz
      · rw [hz]
        obtain ⟨V', f, S', g1, g2, g3, e⟩ := brr_s hS (jn := fk) (brel_c V _) e
        exact hk _ _ _ _ g1 g3 (bKR_ci g2 (bKR_up g1 h3)) e
      · rw [hz]
        exact hk _ _ _ _ (bxt_refl V) hS (bKR_co h3) e
      · rw [hz]
        exact hk _ _ _ _ (bxt_refl V) hS (bKR_co h3) e
      · cases e
    · cases e
  · cases e
set_option maxRecDepth 100000 in
theorem b_put_s {k : bS → bSt → Bool} {K : List Value → zH → Option zR} {ci fk : Nat} {z : Int32} (hS : bSS E tb W h0 V S h) (hs : bKR V a s) (hk : bKH E tb W h0 P V k K) (e : b_put tb W k S ci fk z a = true) : P (zput K h ci fk z s) := by
  unfold b_put at e
  split at e
  · obtain ⟨y, r, h1, hy, h3⟩ := bKR_i hs
    subst h1
    obtain ⟨r, h1, h3x⟩ := bKR_o h3
    subst h1
    split at e
    · rename_i c sl hg
      have h4 := hS.2.2.2.2.2.2.1 _ _ hg (by intro z; cases z)
      obtain ⟨h6, e⟩ := bcnd e
      unfold zput
      simp only
      rw [h4]
      simp only
      rw [h6, cond_true]
      rw [agt_eq] at e
      split at e
      · rename_i hz
        rw [hz]
        simp only
        obtain ⟨c1, e⟩ := bcnd e
        obtain ⟨S', g1, e⟩ := bwr_s (y := y) hS (jn := fk) (brel_c V _) hy e
        have g2 := hk _ _ _ _ _ (bxt_refl V) g1 h3x e
        cases c2 : bie z.toInt 0 with
        | true =>
          have c2 : z = 0 := Int32.toInt_inj.mp (bie_s c2)
          rw [if_pos c2]
          exact g2
        | false =>
          rw [c2, cond_false] at c1
          have c3 := bwi_s hS hy c1
          have c4 : ∀ R : Option zR, zc01 y R = R := by
            intro R
            unfold zc01
            by_cases y0 : y = 0
            · rw [if_pos y0]
            · have y1 : y = 1 := Int32.toInt_inj.mp (by
                have z0 : (0 : Int32).toInt = 0 := by decide
                have z1 : (1 : Int32).toInt = 1 := by decide
                have : y.toInt ≠ 0 := fun q => y0 (Int32.toInt_inj.mp (by rw [q, z0]))
                omega)
              rw [if_neg y0, if_pos y1]
          split
          · exact g2
          · rw [c4]
            exact g2
      · cases e
    · cases e
  · cases e
set_option maxRecDepth 100000 in
theorem b_ix_s (hS : bSS E tb W h0 V S h) {j : bI} {x : Int32} {n : Nat} (hj : brel V j x.toInt) (e : b_ix j n S = true) : brel V j ((x.toNatClampNeg : Nat) : Int) ∧ ∀ r, zck x n r = r := by
  unfold b_ix at e
  rw [bfo_eq] at e
  have h1 := bwi_s hS hj e
  have h2 : ((x.toNatClampNeg : Nat) : Int) = x.toInt := by
    rw [← Int32.toNat_toInt]
    omega
  refine ⟨by rw [h2]; exact hj, fun r => ?_⟩
  unfold zck
  rw [if_neg, if_neg]
  · omega
  · rw [Int32.lt_iff_toInt_lt]
    have h9 : (0 : Int32).toInt = 0 := by decide
    omega
set_option maxRecDepth 100000 in
theorem b_arr_s {t c : Nat} {k : Nat → Bool} (hS : bSS E tb W h0 V S h) (e : b_arr tb t c k = true) : ∃ n, k n = true ∧ ∀ K, zarr h t c K = K n := by
  unfold b_arr at e
  split at e
  · rename_i t' n rf hg
    have h4 := hS.2.2.2.2.2.2.1 _ _ hg (by intro z; cases z)
    obtain ⟨h6, e9⟩ := bcnd e
    have h7 := abq h6
    subst h7
    refine ⟨n, e9, fun K => ?_⟩
    unfold zarr
    rw [h4]
    show cond (Nat.beq t' t') (K n) none = K n
    rw [Nat.beq_refl]
    rfl
  · cases e
set_option maxRecDepth 100000 in
theorem b_ald_s {sc : Option bI} (hsc : ∀ N, sc = some N → brel V N (E.1 : Int)) {k : bS → bSt → Bool} {K : List Value → Option zR} (hS : bSS E tb W h0 V S h) (hs : bKR V a s) (hk : bKS E tb W h0 P V h k K) (e : b_ald tb sc k S a = true) : P (zald E K h s) := by
  unfold b_ald at e
  split at e
  · obtain ⟨j, r, h1, hj, h3⟩ := bKR_i hs
    subst h1
    obtain ⟨r, h1, h3x⟩ := bKR_o h3
    subst h1
    obtain ⟨n, e, hK⟩ := b_arr_s hS e
    obtain ⟨c1, e⟩ := bcnd e
    obtain ⟨g1, g2⟩ := b_ix_s hS hj c1
    unfold zald
    simp only
    rw [hK, g2]
    obtain ⟨V', f, S', f1, f2, f3, e⟩ := brr_s hS g1 e
    exact hk _ _ _ _ f1 f3 (bKR_ci f2 (bKR_up f1 h3x)) e
  · obtain ⟨j, r, h1, hj, h3⟩ := bKR_i hs
    subst h1
    obtain ⟨r, h1, h3x⟩ := bKR_o h3
    subst h1
    split at e
    · rename_i N
      have hN := hsc N rfl
      obtain ⟨c1, e⟩ := bcnd e
      have c1 := bch_s hS hj c1
      obtain ⟨d, g1, e⟩ := bsum_s hN hj e
      obtain ⟨d', g2, e⟩ := bsum_s g1 (brel_c V (-1)) e
      obtain ⟨c2, e⟩ := bcnd e
      have c2 := bch_s hS g2 c2
      have h2 : ((j.toNatClampNeg : Nat) : Int) = j.toInt := by
        rw [← Int32.toNat_toInt]
        omega
      have hck : ∀ r, zck j E.1 r = r := by
        intro r
        unfold zck
        rw [if_neg, if_neg]
        · omega
        · rw [Int32.lt_iff_toInt_lt]
          have h9 : (0 : Int32).toInt = 0 := by decide
          omega
      unfold zald
      simp only
      rw [hck]
      have hv := bi32 (E.2 j.toNatClampNeg)
      obtain ⟨V', f, S', f1, f2, f3, e⟩ := brd_s (c := 1000000) (jn := j.toNatClampNeg) hS (by rw [h2]; exact hj) hv.1 hv.2 e
      exact hk _ _ _ _ f1 f3 (bKR_ci f2 (bKR_up f1 h3x)) e
    · cases e
  · cases e
set_option maxRecDepth 100000 in
theorem b_aldB_s {k : bS → bSt → Bool} {K : List Value → Option zR} (hS : bSS E tb W h0 V S h) (hs : bKR V a s) (hk : bKS E tb W h0 P V h k K) (e : b_aldB tb k S a = true) : P (zaldB K h s) := by
  unfold b_aldB at e
  split at e
  · obtain ⟨j, r, h1, hj, h3⟩ := bKR_i hs
    subst h1
    obtain ⟨r, h1, h3x⟩ := bKR_o h3
    subst h1
    obtain ⟨n, e, hK⟩ := b_arr_s hS e
    obtain ⟨c1, e⟩ := bcnd e
    obtain ⟨g1, g2⟩ := b_ix_s hS hj c1
    unfold zaldB
    simp only
    rw [hK, g2]
    obtain ⟨V', f, S', f1, f2, f3, e⟩ := brr_s hS g1 e
    exact hk _ _ _ _ f1 f3 (bKR_ci f2 (bKR_up f1 h3x)) e
  · cases e
set_option maxRecDepth 100000 in
theorem b_aldJ_s {k : bS → bSt → Bool} {K : List Value → Option zR} (hS : bSS E tb W h0 V S h) (hs : bKR V a s) (hk : bKS E tb W h0 P V h k K) (e : b_aldJ tb k S a = true) : P (zaldJ K h s) := by
  unfold b_aldJ at e
  split at e
  · rename_i y9 a9 r9
    obtain ⟨j, r, h1, hj, h3⟩ := bKR_i hs
    subst h1
    obtain ⟨r, h1, h3x⟩ := bKR_o h3
    subst h1
    obtain ⟨n, e, hK⟩ := b_arr_s hS e
    obtain ⟨c1, e⟩ := bcnd e
    obtain ⟨g1, g2⟩ := b_ix_s hS hj c1
    unfold zaldJ
    simp only
    rw [hK, g2]
    have hv := bi64 (h.2.2.1 a9 j.toNatClampNeg)
    obtain ⟨V', f, S', f1, f2, f3, e⟩ := bfre_s hS hv.1 hv.2 e
    exact hk _ _ _ _ f1 f3 (bKR_cj f2 (bKR_up f1 h3x)) e
  · cases e
set_option maxRecDepth 100000 in
theorem b_aldA_s {k : bSt → Bool} {K : List Value → Option zR} (hS : bSS E tb W h0 V S h) (hs : bKR V a s) (hk : ∀ a s, bKR V a s → k a = true → P (K s)) (e : b_aldA tb k a = true) : P (zaldA K h s) := by
  unfold b_aldA at e
  split at e
  · rename_i jn aa ar
    obtain ⟨j, r, h1, hj, h3⟩ := bKR_i hs
    subst h1
    obtain ⟨r, h1, h3x⟩ := bKR_o h3
    subst h1
    split at e
    · rename_i t n rf hg
      have h4 := hS.2.2.2.2.2.2.1 _ _ hg (by intro z; cases z)
      obtain ⟨h6, e⟩ := bcnd e
      obtain ⟨h7, e⟩ := bcnd e
      have h7 := abl.mp h7
      have h8 : j.toInt = (jn : Int) := brel_k hj
      have h9 : j.toNatClampNeg = jn := by
        rw [← Int32.toNat_toInt]
        omega
      unfold zaldA
      simp only
      rw [h4]
      simp only
      rw [h6, cond_true]
      have hck : ∀ r, zck j n r = r := by
        intro r
        unfold zck
        rw [if_neg, if_neg]
        · omega
        · rw [Int32.lt_iff_toInt_lt]
          have h9 : (0 : Int32).toInt = 0 := by decide
          omega
      rw [hck, h9]
      rw [agt_eq] at e
      split at e <;> rename_i hz
      · rw [hz]
        exact hk _ _ (bKR_co h3x) e
      · rw [hz]
        exact hk _ _ (bKR_co h3x) e
      · cases e
    · cases e
  · cases e
set_option maxRecDepth 100000 in
theorem b_ast_s {k : bS → bSt → Bool} {K : List Value → zH → Option zR} (hS : bSS E tb W h0 V S h) (hs : bKR V a s) (hk : bKH E tb W h0 P V k K) (e : b_ast tb W k S a = true) : P (zast K h s) := by
  unfold b_ast at e
  split at e
  · obtain ⟨y, r, h1, hy, h3⟩ := bKR_i hs
    subst h1
    obtain ⟨j, r, h1, hj, h4⟩ := bKR_i h3
    subst h1
    obtain ⟨r, h1, h3x⟩ := bKR_o h4
    subst h1
    obtain ⟨n, e, hK⟩ := b_arr_s hS e
    obtain ⟨c1, e⟩ := bcnd e
    obtain ⟨g1, g2⟩ := b_ix_s hS hj c1
    unfold zast
    simp only
    rw [hK, g2]
    obtain ⟨S', f1, e⟩ := bwr_s (y := y) hS g1 hy e
    exact hk _ _ _ _ _ (bxt_refl V) f1 h3x e
  · cases e
set_option maxRecDepth 100000 in
theorem b_astB_s {k : bS → bSt → Bool} {K : List Value → zH → Option zR} (hS : bSS E tb W h0 V S h) (hs : bKR V a s) (hk : bKH E tb W h0 P V k K) (e : b_astB tb W k S a = true) : P (zastB K h s) := by
  unfold b_astB at e
  split at e
  · obtain ⟨y, r, h1, hy, h3⟩ := bKR_i hs
    subst h1
    obtain ⟨j, r, h1, hj, h4⟩ := bKR_i h3
    subst h1
    obtain ⟨r, h1, h3x⟩ := bKR_o h4
    subst h1
    obtain ⟨n, e, hK⟩ := b_arr_s hS e
    obtain ⟨c1, e⟩ := bcnd e
    obtain ⟨g1, g2⟩ := b_ix_s hS hj c1
    unfold zastB
    simp only
    rw [hK, g2]
    refine bfin9_lift (b_by_s hS hy e) ?_
    intro V' f S' f1 f2 f3 e
    obtain ⟨S9, f4, e⟩ := bwr_s (y := y.toInt8.toInt32) f3 (brel_up f1 g1) f2 e
    exact hk _ _ _ _ _ f1 f4 (bKR_up f1 h3x) e
  · cases e
set_option maxRecDepth 100000 in
theorem b_astJ_s {k : bS → bSt → Bool} {K : List Value → zH → Option zR} (hS : bSS E tb W h0 V S h) (hs : bKR V a s) (hk : bKH E tb W h0 P V k K) (e : b_astJ tb k S a = true) : P (zastJ K h s) := by
  unfold b_astJ at e
  split at e
  · obtain ⟨y, r, h1, hy, h3⟩ := bKR_j hs
    subst h1
    obtain ⟨j, r, h1, hj, h4⟩ := bKR_i h3
    subst h1
    obtain ⟨r, h1, h3x⟩ := bKR_o h4
    subst h1
    obtain ⟨n, e, hK⟩ := b_arr_s hS e
    obtain ⟨c1, e⟩ := bcnd e
    obtain ⟨g1, g2⟩ := b_ix_s hS hj c1
    unfold zastJ
    simp only
    rw [hK, g2]
    exact hk _ _ _ _ _ (bxt_refl V) (show bSS E tb W h0 V S (zsetJ h _ _) from hS) h3x e
  · cases e
set_option maxRecDepth 100000 in
theorem b_len_s {sc : Option bI} (hN0 : E.1 < 2147483648) (hsc : ∀ N, sc = some N → brel V N (E.1 : Int)) {k : bSt → Bool} {K : List Value → Option zR} (hS : bSS E tb W h0 V S h) (hs : bKR V a s) (hk : ∀ a s, bKR V a s → k a = true → P (K s)) (e : b_len tb sc k a = true) : P (zalen E K h s) := by
  have hof : ∀ n : Nat, n < 2147483648 → (Int32.ofNat n).toInt = (n : Int) := by
    intro n hn
    rw [Int32.toInt_ofNat']
    exact bbm (by omega) (by omega)
  unfold b_len at e
  split at e
  · obtain ⟨r, h1, h3⟩ := bKR_o hs
    subst h1
    split at e
    · rename_i t n rf hg
      have h4 := hS.2.2.2.2.2.2.1 _ _ hg (by intro z; cases z)
      obtain ⟨h6, e⟩ := bcnd e
      have h6 := abl.mp h6
      unfold zalen
      simp only
      rw [h4]
      exact hk _ _ (bKR_ci (by rw [hof n h6]; exact brel_c V _) h3) e
    · cases e
  · obtain ⟨r, h1, h3⟩ := bKR_o hs
    subst h1
    split at e
    · rename_i N
      unfold zalen
      exact hk _ _ (bKR_ci (by rw [hof _ hN0]; exact hsc N rfl) h3) e
    · cases e
  · cases e
set_option maxRecDepth 100000 in
theorem b_recv_s {stc ci : Nat} {as : bSt} {ss : List Value} {r : Bool} (hS : bSS E tb W h0 V S h) (hs : bKR V as ss) (e : b_recv tb stc ci as r = true) : r = true ∧ ∀ R : Option zR, zrecv h stc ci ss R = R := by
  unfold b_recv at e
  split at e
  · split at e
    · obtain ⟨r', h1, h3⟩ := bKR_o hs
      subst h1
      split at e
      · rename_i c sl hg
        have h4 := hS.2.2.2.2.2.2.1 _ _ hg (by intro z; cases z)
        obtain ⟨h6, e⟩ := bcnd e
        refine ⟨e, fun R => ?_⟩
        unfold zrecv
        simp only
        rw [h4]
        simp only
        rw [h6]
        rfl
      · cases e
    · cases e
  · exact ⟨e, fun R => rfl⟩
end BIN
