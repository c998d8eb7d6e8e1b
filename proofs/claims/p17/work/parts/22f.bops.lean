set_option maxRecDepth 100000 in
theorem bi32 (x : Int32) : -2147483648 ≤ x.toInt ∧ x.toInt ≤ 2147483647 := by
  have h1 := x.le_toInt
  have h2 := x.toInt_lt
  omega
set_option maxRecDepth 100000 in
theorem bi64 (x : Int64) : -9223372036854775808 ≤ x.toInt ∧ x.toInt ≤ 9223372036854775807 := by
  have h1 := x.le_toInt
  have h2 := x.toInt_lt
  omega
set_option maxRecDepth 100000 in
theorem bbm {n : Int} (h1 : -2147483648 ≤ n) (h2 : n ≤ 2147483647) : n.bmod (2 ^ 32) = n := by
  apply Int.bmod_eq_of_le <;> omega
set_option maxRecDepth 100000 in
theorem bbm64 {n : Int} (h1 : -9223372036854775808 ≤ n) (h2 : n ≤ 9223372036854775807) : n.bmod (2 ^ 64) = n := by
  apply Int.bmod_eq_of_le <;> omega
set_option maxRecDepth 100000 in
theorem bof {x : Int32} {c : Int} (h : x.toInt = c) : Int32.ofInt c = x := by
  rw [← h]
  exact Int32.ofInt_toInt x
set_option maxRecDepth 100000 in
theorem btn {x : Int32} (h : 0 ≤ x.toInt) : x.toBitVec.toNat < 2147483648 ∧ x.toInt = (x.toBitVec.toNat : Int) := by
  have h1 : x.toInt = x.toBitVec.toInt := rfl
  rw [h1] at h ⊢
  rw [BitVec.toInt_eq_toNat_cond] at h ⊢
  have h2 := x.toBitVec.isLt
  split <;> omega
set_option maxRecDepth 100000 in
theorem btn2 {x : Int32} (h : x.toBitVec.toNat < 2147483648) : x.toInt = (x.toBitVec.toNat : Int) := by
  have h1 : x.toInt = x.toBitVec.toInt := rfl
  rw [h1, BitVec.toInt_eq_toNat_cond]
  have h2 := x.toBitVec.isLt
  split <;> omega
set_option maxRecDepth 100000 in
theorem band_le (x y : Int32) (h : 0 ≤ y.toInt) : 0 ≤ (x &&& y).toInt ∧ (x &&& y).toInt ≤ y.toInt := by
  obtain ⟨h1, h2⟩ := btn h
  have h3 : (x &&& y).toBitVec.toNat = x.toBitVec.toNat &&& y.toBitVec.toNat := by
    rw [Int32.toBitVec_and, BitVec.toNat_and]
  have h4 : x.toBitVec.toNat &&& y.toBitVec.toNat ≤ y.toBitVec.toNat := Nat.and_le_right
  have h5 := btn2 (x := x &&& y) (by omega)
  omega
set_option maxRecDepth 100000 in
theorem band_le2 (x y : Int32) (h : 0 ≤ x.toInt) : 0 ≤ (x &&& y).toInt ∧ (x &&& y).toInt ≤ x.toInt := by
  obtain ⟨h1, h2⟩ := btn h
  have h3 : (x &&& y).toBitVec.toNat = x.toBitVec.toNat &&& y.toBitVec.toNat := by
    rw [Int32.toBitVec_and, BitVec.toNat_and]
  have h4 : x.toBitVec.toNat &&& y.toBitVec.toNat ≤ x.toBitVec.toNat := Nat.and_le_left
  have h5 := btn2 (x := x &&& y) (by omega)
  omega
set_option maxRecDepth 100000 in
theorem bor_le (x y : Int32) (n : Nat) (hn : n ≤ 31) (h : 0 ≤ x.toInt) (h' : 0 ≤ y.toInt) (g : x.toInt < ((2 ^ n : Nat) : Int)) (g' : y.toInt < ((2 ^ n : Nat) : Int)) : 0 ≤ (x ||| y).toInt ∧ (x ||| y).toInt < ((2 ^ n : Nat) : Int) := by
  obtain ⟨h1, h2⟩ := btn h
  obtain ⟨h3, h4⟩ := btn h'
  have h5 : (x ||| y).toBitVec.toNat = x.toBitVec.toNat ||| y.toBitVec.toNat := by
    rw [Int32.toBitVec_or, BitVec.toNat_or]
  have h6 : x.toBitVec.toNat ||| y.toBitVec.toNat < 2 ^ n := Nat.or_lt_two_pow (by omega) (by omega)
  have h7 : 2 ^ n ≤ 2 ^ 31 := Nat.pow_le_pow_right (by omega) hn
  have h8 := btn2 (x := x ||| y) (by omega)
  omega
set_option maxRecDepth 100000 in
theorem bshl1 : ∀ n : Nat, n < 31 → ((1 : Int32) <<< (Int32.ofInt (n : Int) &&& 31)).toInt = ((2 ^ n : Nat) : Int) := by decide +kernel
set_option maxRecDepth 100000 in
theorem bdiv_le {x y : Int32} {a b : Int} (hy : 1 ≤ y.toInt) (h1 : a ≤ x.toInt) (h2 : x.toInt ≤ b) (ha : 0 ≤ a) : 0 ≤ (x / y).toInt ∧ a / y.toInt ≤ (x / y).toInt ∧ (x / y).toInt ≤ b / y.toInt := by
  have h3 : (x / y).toInt = x.toInt / y.toInt := by
    rw [Int32.toInt_div_of_ne_right, Int.tdiv_eq_ediv_of_nonneg (by omega)]
    intro z
    rw [z] at hy
    exact absurd hy (by decide)
  rw [h3]
  exact ⟨Int.ediv_nonneg (by omega) (by omega), Int.ediv_le_ediv (by omega) h1, Int.ediv_le_ediv (by omega) h2⟩
set_option maxRecDepth 100000 in
theorem brem_eq {x y : Int32} (hy : 1 ≤ y.toInt) : (x - x / y * y).toInt = x.toInt.tmod y.toInt := by
  have h3 : (x / y).toInt = x.toInt.tdiv y.toInt := by
    rw [Int32.toInt_div_of_ne_right]
    intro z
    rw [z] at hy
    exact absurd hy (by decide)
  have h4 := Int.tmod_def x.toInt y.toInt
  have h5 := Int.tmod_lt_of_pos x.toInt (b := y.toInt) (by omega)
  have h6 := Int.lt_tmod_of_pos x.toInt (b := y.toInt) (by omega)
  have h7 := bi32 y
  rw [Int32.toInt_sub, Int32.toInt_mul, h3]
  have h8 : x.toInt.tdiv y.toInt * y.toInt = y.toInt * x.toInt.tdiv y.toInt := Int.mul_comm _ _
  rw [h8, Int.sub_bmod_bmod, ← h4]
  exact bbm (by omega) (by omega)
section BOPS
variable {E : zE} {tb : bTb} {W : Nat} {h0 : zH} {P : Option zR → Prop} {V : List Int} {S : bS} {als : bLs} {ls : zLs} {a : bSt} {s : List Value} {h : zH}
abbrev bFin9 (E : zE) (tb : bTb) (W : Nat) (h0 : zH) (V : List Int) (h : zH) (k : bI → bS → Bool) (x : Int) : Prop := ∃ V' f S', bxt V V' ∧ brel V' f x ∧ bSS E tb W h0 V' S' h ∧ k f S' = true
/-- the result of an addition and the like: as it is, where it stays within bounds -/
noncomputable def bw32 (f : bI) (S : bS) (k : bI → bS → Bool) : Bool := cond (bwi f (-2147483648) 2147483647 S) (k f S) (bfre (-2147483648) 2147483647 S k)
set_option maxRecDepth 100000 in
theorem bw32_s (hS : bSS E tb W h0 V S h) {f : bI} {X : Int} {x : Int32} (hf : brel V f X) (hx : -2147483648 ≤ X → X ≤ 2147483647 → x.toInt = X) {k : bI → bS → Bool} (e : bw32 f S k = true) : bFin9 E tb W h0 V h k x.toInt := by
  unfold bw32 at e
  cases hb : bwi f (-2147483648) 2147483647 S with
  | true =>
    rw [hb, cond_true] at e
    have h1 := bwi_s hS hf hb
    exact ⟨V, f, S, bxt_refl V, by rw [hx h1.1 h1.2]; exact hf, hS, e⟩
  | false =>
    rw [hb, cond_false] at e
    exact bfre_s hS (bi32 x).1 (bi32 x).2 e
set_option maxRecDepth 100000 in
theorem bfin_c {c : Int} {x : Int} (hS : bSS E tb W h0 V S h) (hx : x = c) {k : bI → bS → Bool} (e : (bfo c fun c => k (c, []) S) = true) : bFin9 E tb W h0 V h k x := by
  rw [bfo_eq] at e
  exact ⟨V, (c, []), S, bxt_refl V, by rw [hx]; exact brel_c V c, hS, e⟩
noncomputable def bo_add (b a : bI) (S : bS) (k : bI → bS → Bool) : Bool := bsum 1 b a fun f => bw32 f S k
noncomputable def bo_sub (b a : bI) (S : bS) (k : bI → bS → Bool) : Bool := bsum (-1) b a fun f => bw32 f S k
noncomputable def bo_any (_ _ : bI) (S : bS) (k : bI → bS → Bool) : Bool := bfre (-2147483648) 2147483647 S k
noncomputable def bo_mul (b a : bI) (S : bS) (k : bI → bS → Bool) : Bool := match b.2 with
  | [] => bsum b.1 a (0, []) fun f => bw32 f S k
  | _ :: _ => (match a.2 with
    | [] => bsum a.1 b (0, []) fun f => bw32 f S k
    | _ :: _ => bo_any b a S k)
noncomputable def bo_two (g : Int32 → Int32 → Int32) (r : bI → bI → bS → (bI → bS → Bool) → Bool) (b a : bI) (S : bS) (k : bI → bS → Bool) : Bool := match b.2, a.2 with
  | [], [] => bfo (g (Int32.ofInt a.1) (Int32.ofInt b.1)).toInt fun c => k (c, []) S
  | _, _ => r b a S k
noncomputable def bo_and (b a : bI) (S : bS) (k : bI → bS → Bool) : Bool := brS b S fun lb hb => brS a S fun la ha =>
  cond (bLe 0 lb) (bfre 0 hb S k) (cond (bLe 0 la) (bfre 0 ha S k) (bo_any b a S k))
noncomputable def bo_or (b a : bI) (S : bS) (k : bI → bS → Bool) : Bool := brS b S fun lb hb => brS a S fun la ha =>
  cond (cond (bLe 0 lb) (bLe 0 la) false) (afo (Nat.log2 (bmx hb ha).toNat + 1) fun n => cond (Nat.ble n 31) (cond (cond (bLe (hb + 1) (2 ^ n : Nat)) (bLe (ha + 1) (2 ^ n : Nat)) false) (bfre 0 ((2 ^ n : Nat) - 1) S k) (bo_any b a S k)) (bo_any b a S k)) (bo_any b a S k)
noncomputable def bo_shl (b a : bI) (S : bS) (k : bI → bS → Bool) : Bool := brS b S fun lb hb =>
  cond (cond (bfq a (1, [])) (cond (bLe 0 lb) (bLe hb 30) false) false) (bfre 1 ((2 ^ hb.toNat : Nat) : Int) S k) (bo_any b a S k)
set_option maxRecDepth 100000 in
theorem bo_any_s (hS : bSS E tb W h0 V S h) {a b : bI} (x : Int32) {k : bI → bS → Bool} (e : bo_any b a S k = true) : bFin9 E tb W h0 V h k x.toInt := bfre_s hS (bi32 x).1 (bi32 x).2 e
abbrev bOp (E : zE) (tb : bTb) (W : Nat) (h0 : zH) (o : bI → bI → bS → (bI → bS → Bool) → Bool) (g : Int32 → Int32 → Int32) : Prop := ∀ (V : List Int) (S : bS) (h : zH) (a b : bI) (x y : Int32) (k : bI → bS → Bool), bSS E tb W h0 V S h → brel V a x.toInt → brel V b y.toInt → o b a S k = true → bFin9 E tb W h0 V h k (g x y).toInt
set_option maxRecDepth 100000 in
theorem bo_add_s : bOp E tb W h0 bo_add (fun a b => a + b) := by
  intro V S h a b x y k hS ha hb e
  obtain ⟨f, h1, e⟩ := bsum_s ha hb e
  exact bw32_s hS h1 (fun g1 g2 => by
    show (x + y).toInt = _
    rw [Int32.toInt_add, bbm (by omega) (by omega)]
    omega) e
set_option maxRecDepth 100000 in
theorem bo_sub_s : bOp E tb W h0 bo_sub (fun a b => a - b) := by
  intro V S h a b x y k hS ha hb e
  obtain ⟨f, h1, e⟩ := bsum_s ha hb e
  exact bw32_s hS h1 (fun g1 g2 => by
    show (x - y).toInt = _
    rw [Int32.toInt_sub, bbm (by omega) (by omega)]
    omega) e
set_option maxRecDepth 100000 in
theorem bo_mul_s : bOp E tb W h0 bo_mul (fun a b => a * b) := by
  intro V S h a b x y k hS ha hb e
  unfold bo_mul at e
  split at e
  · rename_i hz
    have hb1 : y.toInt = b.1 := by
      obtain ⟨c, l⟩ := b
      have hz : l = [] := hz
      subst hz
      exact brel_k hb
    obtain ⟨f, h1, e⟩ := bsum_s (brel_c V 0) ha e
    have h2 : x.toInt * y.toInt = 0 + b.1 * x.toInt := by rw [hb1, Int.mul_comm]; omega
    exact bw32_s hS h1 (fun g1 g2 => by
      show (x * y).toInt = _
      rw [Int32.toInt_mul, h2, bbm (by omega) (by omega)]) e
  · split at e
    · rename_i hz
      have ha1 : x.toInt = a.1 := by
        obtain ⟨c, l⟩ := a
        have hz : l = [] := hz
        subst hz
        exact brel_k ha
      obtain ⟨f, h1, e⟩ := bsum_s (brel_c V 0) hb e
      have h2 : x.toInt * y.toInt = 0 + a.1 * y.toInt := by rw [ha1]; omega
      exact bw32_s hS h1 (fun g1 g2 => by
        show (x * y).toInt = _
        rw [Int32.toInt_mul, h2, bbm (by omega) (by omega)]) e
    · exact bo_any_s hS (x * y) e
set_option maxRecDepth 100000 in
theorem bo_two_s {g : Int32 → Int32 → Int32} {r : bI → bI → bS → (bI → bS → Bool) → Bool} (hr : bOp E tb W h0 r g) : bOp E tb W h0 (bo_two g r) g := by
  intro V S h a b x y k hS ha hb e
  unfold bo_two at e
  split at e
  · rename_i z1 z2
    obtain ⟨c, l⟩ := b
    obtain ⟨d, m⟩ := a
    have z1 : l = [] := z1
    have z2 : m = [] := z2
    subst z1
    subst z2
    have e1 := bof (brel_k ha)
    have e2 := bof (brel_k hb)
    exact bfin_c hS (by
      show (g x y).toInt = (g (Int32.ofInt d) (Int32.ofInt c)).toInt
      rw [e1, e2]) e
  · exact hr _ _ _ _ _ _ _ _ hS ha hb e
set_option maxRecDepth 100000 in
theorem bo_anyo_s (g : Int32 → Int32 → Int32) : bOp E tb W h0 bo_any g := by
  intro V S h a b x y k hS ha hb e
  exact bo_any_s hS (g x y) e
set_option maxRecDepth 100000 in
theorem bo_and_s : bOp E tb W h0 bo_and (fun a b => a &&& b) := by
  intro V S h a b x y k hS ha hb e
  unfold bo_and at e
  obtain ⟨lb, hb', h1, h2, e⟩ := brS_s hS hb e
  obtain ⟨la, ha', h3, h4, e⟩ := brS_s hS ha e
  cases c1 : bLe 0 lb with
  | true =>
    rw [c1, cond_true] at e
    have := bLe_iff.mp c1
    have h5 := band_le x y (by omega)
    exact bfre_s hS h5.1 (Int.le_trans h5.2 h2) e
  | false =>
    rw [c1, cond_false] at e
    cases c2 : bLe 0 la with
    | true =>
      rw [c2, cond_true] at e
      have := bLe_iff.mp c2
      have h5 := band_le2 x y (by omega)
      exact bfre_s hS h5.1 (Int.le_trans h5.2 h4) e
    | false =>
      rw [c2, cond_false] at e
      exact bo_any_s hS (x &&& y) e
set_option maxRecDepth 100000 in
theorem bo_or_s : bOp E tb W h0 bo_or (fun a b => a ||| b) := by
  intro V S h a b x y k hS ha hb e
  unfold bo_or at e
  obtain ⟨lb, hb', h1, h2, e⟩ := brS_s hS hb e
  obtain ⟨la, ha', h3, h4, e⟩ := brS_s hS ha e
  cases c1 : (cond (bLe 0 lb) (bLe 0 la) false) with
  | false =>
    rw [c1, cond_false] at e
    exact bo_any_s hS (x ||| y) e
  | true =>
    rw [c1, cond_true, afo_eq] at e
    obtain ⟨c2, c3⟩ := bcnd c1
    have c2 := bLe_iff.mp c2
    have c3 := bLe_iff.mp c3
    generalize Nat.log2 (bmx hb' ha').toNat + 1 = n at e
    cases c4 : Nat.ble n 31 with
    | false =>
      rw [c4, cond_false] at e
      exact bo_any_s hS (x ||| y) e
    | true =>
      rw [c4, cond_true] at e
      have c4 := abe.mp c4
      cases c5 : (cond (bLe (hb' + 1) (2 ^ n : Nat)) (bLe (ha' + 1) (2 ^ n : Nat)) false) with
      | false =>
        rw [c5, cond_false] at e
        exact bo_any_s hS (x ||| y) e
      | true =>
        rw [c5, cond_true] at e
        obtain ⟨c6, c7⟩ := bcnd c5
        have c6 := bLe_iff.mp c6
        have c7 := bLe_iff.mp c7
        have h5 := bor_le x y n c4 (by omega) (by omega) (by omega) (by omega)
        exact bfre_s hS h5.1 (by show (x ||| y).toInt ≤ _; omega) e
set_option maxRecDepth 100000 in
theorem bo_shl_s : bOp E tb W h0 bo_shl (fun a b => a <<< (b &&& 31)) := by
  intro V S h a b x y k hS ha hb e
  unfold bo_shl at e
  obtain ⟨lb, hb', h1, h2, e⟩ := brS_s hS hb e
  cases c1 : (cond (bfq a (1, [])) (cond (bLe 0 lb) (bLe hb' 30) false) false) with
  | false =>
    rw [c1, cond_false] at e
    exact bo_any_s hS (x <<< (y &&& 31)) e
  | true =>
    rw [c1, cond_true] at e
    obtain ⟨c2, c3⟩ := bcnd c1
    obtain ⟨c3, c4⟩ := bcnd c3
    have c3 := bLe_iff.mp c3
    have c4 := bLe_iff.mp c4
    rw [bfq_s c2] at ha
    have hx : x = 1 := Int32.toInt_inj.mp (brel_k ha)
    have hy : Int32.ofInt (y.toInt.toNat : Int) = y := bof (by omega)
    have h5 := bshl1 y.toInt.toNat (by omega)
    rw [hy] at h5
    have h6 : 2 ^ y.toInt.toNat ≤ 2 ^ hb'.toNat := Nat.pow_le_pow_right (by omega) (by omega)
    have h7 : 1 ≤ 2 ^ y.toInt.toNat := Nat.one_le_two_pow
    rw [hx]
    refine bfre_s hS ?_ ?_ e
    · show (1 : Int) ≤ ((1 : Int32) <<< (y &&& 31)).toInt
      rw [h5]
      omega
    · show ((1 : Int32) <<< (y &&& 31)).toInt ≤ _
      rw [h5]
      omega
noncomputable def bo_div (b a : bI) (S : bS) (k : bI → bS → Bool) : Bool := brS b S fun lb hb => cond (bLe 1 lb)
  (brS a S fun la ha => cond (cond (bLe 0 la) (bie lb hb) false) (bfre (la / lb) (ha / lb) S k) (bo_any b a S k)) (cond (bLe hb (-1)) (bo_any b a S k) false)
set_option maxRecDepth 100000 in
theorem bo_div_s {a b : bI} {x y : Int32} {k : bI → bS → Bool} (hS : bSS E tb W h0 V S h) (ha : brel V a x.toInt) (hb : brel V b y.toInt) (e : bo_div b a S k = true) : ¬ y = 0 ∧ bFin9 E tb W h0 V h k (x / y).toInt := by
  unfold bo_div at e
  obtain ⟨lb, hb', h1, h2, e⟩ := brS_s hS hb e
  have h9 : y.toInt ≠ 0 → ¬ y = 0 := fun z1 z2 => z1 (by rw [z2]; decide)
  cases c1 : bLe 1 lb with
  | true =>
    rw [c1, cond_true] at e
    have c1 := bLe_iff.mp c1
    obtain ⟨la, ha', h3, h4, e⟩ := brS_s hS ha e
    refine ⟨h9 (by omega), ?_⟩
    cases c2 : (cond (bLe 0 la) (bie lb hb') false) with
    | true =>
      rw [c2, cond_true] at e
      obtain ⟨c3, c4⟩ := bcnd c2
      have c3 := bLe_iff.mp c3
      have c4 := bie_s c4
      have h5 : y.toInt = lb := by omega
      have h6 := bdiv_le (x := x) (y := y) (by omega) h3 h4 c3
      rw [h5] at h6
      exact bfre_s hS h6.2.1 h6.2.2 e
    | false =>
      rw [c2, cond_false] at e
      exact bo_any_s hS (x / y) e
  | false =>
    rw [c1, cond_false] at e
    cases c2 : bLe hb' (-1) with
    | true =>
      rw [c2, cond_true] at e
      have c2 := bLe_iff.mp c2
      exact ⟨h9 (by omega), bo_any_s hS (x / y) e⟩
    | false => rw [c2] at e; cases e
set_option maxRecDepth 100000 in
theorem bxor_s (x y : Int32) (h : 0 ≤ y.toInt) : (0 ≤ x.toInt → 0 ≤ (x ^^^ y).toInt) ∧ (x.toInt < 0 → (x ^^^ y).toInt < 0) := by
  have h1 : ∀ z : Int32, z.toBitVec.msb = decide (z.toInt < 0) := fun z => BitVec.msb_eq_toInt
  have h2 : (x ^^^ y).toBitVec.msb = (x.toBitVec.msb ^^ y.toBitVec.msb) := by
    rw [Int32.toBitVec_xor, BitVec.msb_xor]
  rw [h1, h1, h1] at h2
  have h3 : decide (y.toInt < 0) = false := decide_eq_false (by omega)
  rw [h3, Bool.xor_false] at h2
  constructor
  · intro h4
    have h5 : decide (x.toInt < 0) = false := decide_eq_false (by omega)
    rw [h5] at h2
    have := of_decide_eq_false h2
    omega
  · intro h4
    rw [decide_eq_true h4] at h2
    exact of_decide_eq_true h2
noncomputable def bo_xor (b a : bI) (S : bS) (k : bI → bS → Bool) : Bool := brS b S fun lb _ => cond (bLe 0 lb)
  (cond (bas a S fun S => bfre 0 2147483647 S k) (bsum (-1) a (-1, []) fun n => bas n S fun S => bfre (-2147483648) (-1) S k) false) (bo_any b a S k)
set_option maxRecDepth 100000 in
theorem bo_xor_s : bOp E tb W h0 bo_xor (fun a b => a ^^^ b) := by
  intro V S h a b x y k hS ha hb e
  unfold bo_xor at e
  obtain ⟨lb, hb', h1, h2, e⟩ := brS_s hS hb e
  cases c1 : bLe 0 lb with
  | false =>
    rw [c1, cond_false] at e
    exact bo_any_s hS (x ^^^ y) e
  | true =>
    rw [c1, cond_true] at e
    have c1 := bLe_iff.mp c1
    obtain ⟨e1, e2⟩ := bcnd e
    have h3 := bxor_s x y (by omega)
    have h4 := bi32 (x ^^^ y)
    by_cases hx : 0 ≤ x.toInt
    · obtain ⟨S', g1, e1⟩ := bas_s hS ha hx e1
      exact bfre_s g1 (h3.1 hx) h4.2 e1
    · obtain ⟨n, g1, e2⟩ := bsum_s (brel_c V (-1)) ha e2
      obtain ⟨S', g2, e2⟩ := bas_s hS g1 (by omega) e2
      have h5 := h3.2 (by omega)
      exact bfre_s g2 h4.1 (by show (x ^^^ y).toInt ≤ -1; omega) e2
/-- what was known as f is known as g -/
noncomputable def brw (f g : bI) (ov : bO) : (bO → Bool) → Bool := List.rec (motive := fun _ => (bO → Bool) → Bool) (fun k => k []) (fun q _ ih k => cond (bfq q.2.2 f) (ih fun r => k ((q.1, q.2.1, g) :: r)) (ih fun r => k (q :: r))) ov
set_option maxRecDepth 100000 in
theorem brw_s {f g : bI} {x : Int} (hf : brel V f x) (hg : brel V g x) : ∀ {ov : bO} {k : bO → Bool}, bOV E V ov h → brw f g ov k = true → ∃ ov', bOV E V ov' h ∧ k ov' = true
  | [], k, _, e => ⟨[], fun q hq => absurd hq List.not_mem_nil, e⟩
  | q :: ov, k, hO, e => by
    have e : cond (bfq q.2.2 f) (brw f g ov fun r => k ((q.1, q.2.1, g) :: r)) (brw f g ov fun r => k (q :: r)) = true := e
    have hO' : bOV E V ov h := fun p hp => hO p (List.mem_cons_of_mem _ hp)
    obtain ⟨j, h1, h2⟩ := hO q List.mem_cons_self
    cases hb : bfq q.2.2 f with
    | true =>
      rw [hb, cond_true] at e
      obtain ⟨ov', g1, g2⟩ := brw_s hf hg hO' e
      refine ⟨_, ?_, g2⟩
      intro p hp
      cases hp with
      | tail _ hp => exact g1 p hp
      | head =>
        rw [bfq_s hb] at h2
        have := brel_f hf h2
        exact ⟨j, h1, by show brel V g _; rw [← this]; exact hg⟩
    | false =>
      rw [hb, cond_false] at e
      obtain ⟨ov', g1, g2⟩ := brw_s hf hg hO' e
      refine ⟨_, ?_, g2⟩
      intro p hp
      cases hp with
      | tail _ hp => exact g1 p hp
      | head => exact ⟨j, h1, h2⟩
noncomputable def brw3 (a q r : bI) (S : bS) (k : bI → bS → Bool) : Bool := match S with
  | (nv, env, cs, ov, ca, sa) => bsum 3 q r fun e => brw a e ov fun ov => k r (nv, env, cs, ov, ca, sa)
noncomputable def bo_rem (b a : bI) (S : bS) (k : bI → bS → Bool) : Bool := bsum 1 (-1, []) b fun b1 => cond (bch b1 S) (brS b S fun _ hb => cond (bch a S)
    (cond (bfq b (3, [])) (brS a S fun la ha => bfre (la / 3) (ha / 3) S fun q S => bfre 0 2 S fun r S => brw3 a q r S k)
      (bfre 0 (hb - 1) S fun r S => bsum (-1) r b1 fun c => bas c S fun S => k r S))
    (cond (bas a S fun S => bfre 0 (hb - 1) S fun r S => bsum (-1) r b1 fun c => bas c S fun S => k r S)
      (bsum (-1) a (-1, []) fun n => bas n S fun S => bfre (1 - hb) 0 S fun r S => bsum 1 r b1 fun c => bas c S fun S => k r S) false)) false
set_option maxRecDepth 100000 in
theorem bo_rem_s {a b : bI} {x y : Int32} {k : bI → bS → Bool} (hS : bSS E tb W h0 V S h) (ha : brel V a x.toInt) (hb : brel V b y.toInt) (e : bo_rem b a S k = true) : ¬ y = 0 ∧ bFin9 E tb W h0 V h k (x - x / y * y).toInt := by
  unfold bo_rem at e
  obtain ⟨b1, h1, e⟩ := bsum_s hb (brel_c V (-1)) e
  obtain ⟨c1, e⟩ := bcnd e
  have c1 := bch_s hS h1 c1
  have hy : 1 ≤ y.toInt := by omega
  have h9 : ¬ y = 0 := fun z => by rw [z] at hy; exact absurd hy (by decide)
  refine ⟨h9, ?_⟩
  rw [brem_eq hy]
  have h5 := Int.tmod_lt_of_pos x.toInt (b := y.toInt) (by omega)
  have h6 := Int.lt_tmod_of_pos x.toInt (b := y.toInt) (by omega)
  obtain ⟨lb, hb', h2, h3, e⟩ := brS_s hS hb e
  have pos : ∀ {S9 : bS}, 0 ≤ x.toInt → bSS E tb W h0 V S9 h → (bfre 0 (hb' - 1) S9 fun r S => bsum (-1) r b1 fun c => bas c S fun S => k r S) = true → bFin9 E tb W h0 V h k (x.toInt.tmod y.toInt) := by
    intro S9 hx hS9 e
    have h7 := Int.tmod_nonneg y.toInt hx
    obtain ⟨V', r, S', g1, g2, g3, e⟩ := bfre_s hS9 h7 (show x.toInt.tmod y.toInt ≤ hb' - 1 by omega) e
    obtain ⟨c, g4, e⟩ := bsum_s (brel_up g1 h1) g2 e
    obtain ⟨S8, g5, e⟩ := bas_s g3 g4 (by omega) e
    exact ⟨V', r, S8, g1, g2, g5, e⟩
  cases c2 : bch a S with
  | true =>
    rw [c2, cond_true] at e
    have c2 := bch_s hS ha c2
    cases c3 : bfq b (3, []) with
    | false =>
      rw [c3, cond_false] at e
      exact pos c2 hS e
    | true =>
      rw [c3, cond_true] at e
      rw [bfq_s c3] at hb
      have hy3 := brel_k hb
      obtain ⟨la, ha', q1, q2, e⟩ := brS_s hS ha e
      have h7 : x.toInt.tmod y.toInt = x.toInt % 3 := by rw [hy3, Int.tmod_eq_emod_of_nonneg c2]
      rw [h7]
      obtain ⟨V1, q, S1, f1, f2, f3, e⟩ := bfre_s (x := x.toInt / 3) hS (Int.ediv_le_ediv (by omega) q1) (Int.ediv_le_ediv (by omega) q2) e
      obtain ⟨V2, r, S2, f4, f5, f6, e⟩ := bfre_s (x := x.toInt % 3) f3 (by omega) (by omega) e
      obtain ⟨nv, env, cs, ov, ca, sa⟩ := S2
      have e : (bsum 3 q r fun e => brw a e ov fun ov => k r (nv, env, cs, ov, ca, sa)) = true := e
      obtain ⟨e', f7, e⟩ := bsum_s f5 (brel_up f4 f2) e
      have f8 : x.toInt % 3 + 3 * (x.toInt / 3) = x.toInt := by omega
      rw [f8] at f7
      obtain ⟨g1, g2, g3, g4, g5⟩ := f6
      obtain ⟨ov', f9, e⟩ := brw_s (brel_up (bxt_trans f1 f4) ha) f7 g4 e
      exact ⟨V2, r, (nv, env, cs, ov', ca, sa), bxt_trans f1 f4, f5, ⟨g1, g2, g3, f9, g5⟩, e⟩
  | false =>
    rw [c2, cond_false] at e
    obtain ⟨e1, e2⟩ := bcnd e
    by_cases hx : 0 ≤ x.toInt
    · obtain ⟨S', g1, e1⟩ := bas_s hS ha hx e1
      exact pos hx g1 e1
    · obtain ⟨n, g1, e2⟩ := bsum_s (brel_c V (-1)) ha e2
      obtain ⟨S', g2, e2⟩ := bas_s hS g1 (by omega) e2
      have h7 : x.toInt.tmod y.toInt ≤ 0 := by
        have h8 := Int.tmod_nonneg y.toInt (a := -x.toInt) (by omega)
        rw [Int.neg_tmod] at h8
        omega
      obtain ⟨V', r, S9, g3, g4, g5, e⟩ := bfre_s g2 (show 1 - hb' ≤ x.toInt.tmod y.toInt by omega) h7 e2
      obtain ⟨c, g6, e⟩ := bsum_s (brel_up g3 h1) g4 e
      obtain ⟨S8, g7, e⟩ := bas_s g5 g6 (by omega) e
      exact ⟨V', r, S8, g3, g4, g7, e⟩
/-- f = g, or not -/
noncomputable def bq2 (f g : bI) (S : bS) (kt kf : bS → Bool) : Bool := bsum (-1) g f fun D => cond
  (bas D S fun S => bsum (-1) D (0, []) fun N => bas N S kt)
  (cond (bch D S) (bsum 1 (-1, []) D fun C => bas C S kf) (bsum (-1) D (0, []) fun N => cond (bch N S) (bsum (-1) D (-1, []) fun C => bas C S kf)
    (brS D S fun lo hi => cond (cond (bie lo (-2147483648)) (bie hi 2147483647) false) (cond (bsum 1 (-1, []) D fun C => bas C S kf) (bsum (-1) D (-1, []) fun C => bas C S kf) false) (kf S)))) false
set_option maxRecDepth 100000 in
theorem bq2_s (hS : bSS E tb W h0 V S h) {f g : bI} {x y : Int} (hf : brel V f x) (hg : brel V g y) {kt kf : bS → Bool} (e : bq2 f g S kt kf = true) : (x = y → ∃ S', bSS E tb W h0 V S' h ∧ kt S' = true) ∧ (¬ x = y → ∃ S', bSS E tb W h0 V S' h ∧ kf S' = true) := by
  unfold bq2 at e
  obtain ⟨D, h1, e⟩ := bsum_s hf hg e
  obtain ⟨e1, e2⟩ := bcnd e
  constructor
  · intro hxy
    obtain ⟨S1, g1, e1⟩ := bas_s hS h1 (by omega) e1
    obtain ⟨N, g2, e1⟩ := bsum_s (brel_c V 0) h1 e1
    exact bas_s g1 g2 (by omega) e1
  · intro hxy
    have up : x > y → (bsum 1 (-1, []) D fun C => bas C S kf) = true → ∃ S', bSS E tb W h0 V S' h ∧ kf S' = true := by
      intro hlt e
      obtain ⟨C, g3, e⟩ := bsum_s h1 (brel_c V (-1)) e
      exact bas_s hS g3 (by omega) e
    have dn : x < y → (bsum (-1) D (-1, []) fun C => bas C S kf) = true → ∃ S', bSS E tb W h0 V S' h ∧ kf S' = true := by
      intro hlt e
      obtain ⟨C, g3, e⟩ := bsum_s (brel_c V (-1)) h1 e
      exact bas_s hS g3 (by omega) e
    cases c1 : bch D S with
    | true =>
      rw [c1, cond_true] at e2
      have c1 := bch_s hS h1 c1
      exact up (by omega) e2
    | false =>
      rw [c1, cond_false] at e2
      obtain ⟨N, g1, e2⟩ := bsum_s (brel_c V 0) h1 e2
      cases c2 : bch N S with
      | true =>
        rw [c2, cond_true] at e2
        have c2 := bch_s hS g1 c2
        exact dn (by omega) e2
      | false =>
        rw [c2, cond_false] at e2
        obtain ⟨lo, hi, g2, g3, e2⟩ := brS_s hS h1 e2
        cases c3 : (cond (bie lo (-2147483648)) (bie hi 2147483647) false) with
        | true =>
          rw [c3, cond_true] at e2
          obtain ⟨e3, e4⟩ := bcnd e2
          by_cases hlt : x < y
          · exact dn hlt e4
          · exact up (by omega) e3
        | false =>
          rw [c3, cond_false] at e2
          exact ⟨S, hS, e2⟩
/-- f < g, or not -/
noncomputable def bl2 (f g : bI) (S : bS) (kt kf : bS → Bool) : Bool := bsum (-1) g f fun D => cond (bsum (-1) D (-1, []) fun C => bas C S kt) (bas D S kf) false
set_option maxRecDepth 100000 in
theorem bl2_s (hS : bSS E tb W h0 V S h) {f g : bI} {x y : Int} (hf : brel V f x) (hg : brel V g y) {kt kf : bS → Bool} (e : bl2 f g S kt kf = true) : (x < y → ∃ S', bSS E tb W h0 V S' h ∧ kt S' = true) ∧ (¬ x < y → ∃ S', bSS E tb W h0 V S' h ∧ kf S' = true) := by
  unfold bl2 at e
  obtain ⟨D, h1, e⟩ := bsum_s hf hg e
  obtain ⟨e1, e2⟩ := bcnd e
  constructor
  · intro hxy
    obtain ⟨C, g3, e1⟩ := bsum_s (brel_c V (-1)) h1 e1
    exact bas_s hS g3 (by omega) e1
  · intro hxy
    exact bas_s hS h1 (by omega) e2
end BOPS
