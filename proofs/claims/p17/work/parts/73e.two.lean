/-! bits of a row of neighbours; a room, two numbers -/
set_option maxRecDepth 100000 in
theorem nbq {a b : Nat} (h : a ≠ b) : Nat.beq a b = false := by
  cases hb : Nat.beq a b with
  | false => rfl
  | true => exact absurd (abq hb) h
set_option maxRecDepth 100000 in
theorem int12 : (12 : Int32).toInt = 12 := by decide
set_option maxRecDepth 100000 in
theorem bvn {x : Int32} {n : Nat} (hx : x.toInt = (n : Int)) : x.toBitVec.toNat = n := by
  have := btn (x := x) (by omega)
  omega
set_option maxRecDepth 100000 in
theorem smod12 : ∀ B, B < 12 → ((Int32.ofNat B &&& 31).toBitVec.smod 32).toNat = B := by decide +kernel
set_option maxRecDepth 100000 in
theorem shr_n {x : Int32} {n B : Nat} (hx : x.toInt = (n : Int)) (hn : n < 4096) (hB : B < 12) : (x >>> (Int32.ofNat B &&& 31)).toInt = ((n >>> B : Nat) : Int) := by
  have hb := bvn hx
  have hm : x.toBitVec.msb = false := by
    rw [BitVec.msb_eq_decide, hb]
    exact decide_eq_false (by omega)
  have h1 : (x >>> (Int32.ofNat B &&& 31)).toBitVec = x.toBitVec >>> B := by
    rw [Int32.toBitVec_shiftRight]
    show x.toBitVec.sshiftRight ((Int32.ofNat B &&& 31).toBitVec.smod 32).toNat = _
    rw [smod12 B hB, BitVec.sshiftRight_eq_of_msb_false hm]
  have h2 : (x >>> (Int32.ofNat B &&& 31)).toBitVec.toNat = n >>> B := by rw [h1, BitVec.toNat_ushiftRight, hb]
  have h3 : n >>> B ≤ n := by rw [Nat.shiftRight_eq_div_pow]; exact Nat.div_le_self _ _
  rw [btn2 (by omega), h2]
set_option maxRecDepth 100000 in
theorem and1_n {x : Int32} {n : Nat} (hx : x.toInt = (n : Int)) : (x &&& 1).toInt = ((n % 2 : Nat) : Int) := by
  have h2 : (x &&& 1).toBitVec.toNat = n % 2 := by
    rw [Int32.toBitVec_and, BitVec.toNat_and, bvn hx]
    exact Nat.and_two_pow_sub_one_eq_mod n 1
  rw [btn2 (by omega), h2]
set_option maxRecDepth 100000 in
theorem or_n {x y : Int32} {n m : Nat} (hx : x.toInt = (n : Int)) (hy : y.toInt = (m : Int)) (hn : n < 4096) (hm : m < 4096) : (x ||| y).toInt = ((n ||| m : Nat) : Int) ∧ n ||| m < 4096 := by
  have h1 : n ||| m < 2 ^ 12 := Nat.or_lt_two_pow hn hm
  have h2 : (x ||| y).toBitVec.toNat = n ||| m := by rw [Int32.toBitVec_or, BitVec.toNat_or, bvn hx, bvn hy]
  exact ⟨by rw [btn2 (by omega), h2], h1⟩
set_option maxRecDepth 100000 in
theorem i32_nat {x : Int32} {n : Nat} (hx : x.toInt = (n : Int)) : x = Int32.ofNat n := by
  rw [← bof hx]
  rfl
set_option maxRecDepth 100000 in
theorem shl_n {b : Int32} {B : Nat} (hb : b.toInt = (B : Int)) (hB : B < 12) : ((1 : Int32) <<< (b &&& 31)).toInt = ((2 ^ B : Nat) : Int) ∧ 2 ^ B < 4096 := by
  rw [← bof hb]
  exact ⟨bshl1 B (by omega), Nat.pow_lt_pow_right (by decide) (show B < 12 from hB)⟩
/-- a row of neighbours, as bits -/
def nbR (x : Int32) (l : List (Nat × Nat)) (a : Nat) : Prop := ∃ n : Nat, x.toInt = (n : Int) ∧ n < 4096 ∧ ∀ b, b < 12 → Nat.testBit n b = dor l a b
set_option maxRecDepth 100000 in
theorem nb_t {x b : Int32} {l : List (Nat × Nat)} {a B : Nat} (h : nbR x l a) (hb : b.toInt = (B : Int)) (hB : B < 12) : ((x >>> (b &&& 31)) &&& 1).toInt = if dor l a B = true then 1 else 0 := by
  obtain ⟨n, h1, h2, h3⟩ := h
  rw [i32_nat hb, and1_n (shr_n h1 h2 hB), ← h3 B hB]
  unfold Nat.testBit
  rw [Nat.and_comm, Nat.and_one_is_mod]
  have h4 : n >>> B % 2 < 2 := Nat.mod_lt _ (by decide)
  cases h5 : n >>> B % 2 with
  | zero => rfl
  | succ m =>
    have : m = 0 := by omega
    subst this
    rfl
set_option maxRecDepth 100000 in
theorem dor_a {l : List (Nat × Nat)} {a b x y : Nat} : dor (l ++ [(a, b)]) x y = (dor l x y || ((Nat.beq a x && Nat.beq b y) || (Nat.beq a y && Nat.beq b x))) := by
  unfold dor
  rw [List.any_append, List.any_cons, List.any_nil, Bool.or_false]
set_option maxRecDepth 100000 in
theorem nb_1 {x z : Int32} {l : List (Nat × Nat)} {a b : Nat} (h : nbR x l a) (hab : a ≠ b) (hz : z.toInt = (b : Int)) (hb : b < 12) : nbR (x ||| ((1 : Int32) <<< (z &&& 31))) (l ++ [(a, b)]) a := by
  obtain ⟨n, h1, h2, h3⟩ := h
  obtain ⟨s1, s2⟩ := shl_n hz hb
  obtain ⟨o1, o2⟩ := or_n h1 s1 h2 s2
  refine ⟨n ||| 2 ^ b, o1, o2, fun y hy => ?_⟩
  rw [Nat.testBit_or, h3 y hy, dor_a, Nat.testBit_two_pow]
  have e1 : ((Nat.beq a a && Nat.beq b y) || (Nat.beq a y && Nat.beq b a)) = decide (b = y) := by
    rw [Nat.beq_refl, Bool.true_and, show Nat.beq b a = false from nbq (Ne.symm hab), Bool.and_false, Bool.or_false]
    by_cases hq : b = y
    · subst hq; rw [Nat.beq_refl]; exact (decide_eq_true rfl).symm
    · rw [nbq hq, decide_eq_false hq]
  rw [e1]
set_option maxRecDepth 100000 in
theorem nb_2 {x z : Int32} {l : List (Nat × Nat)} {a b : Nat} (h : nbR x l b) (hab : a ≠ b) (hz : z.toInt = (a : Int)) (ha : a < 12) : nbR (x ||| ((1 : Int32) <<< (z &&& 31))) (l ++ [(a, b)]) b := by
  obtain ⟨n, h1, h2, h3⟩ := h
  obtain ⟨s1, s2⟩ := shl_n hz ha
  obtain ⟨o1, o2⟩ := or_n h1 s1 h2 s2
  refine ⟨n ||| 2 ^ a, o1, o2, fun y hy => ?_⟩
  rw [Nat.testBit_or, h3 y hy, dor_a, Nat.testBit_two_pow]
  have e1 : ((Nat.beq a b && Nat.beq b y) || (Nat.beq a y && Nat.beq b b)) = decide (a = y) := by
    rw [Nat.beq_refl, Bool.and_true, show Nat.beq a b = false from nbq hab, Bool.false_and, Bool.false_or]
    by_cases hq : a = y
    · subst hq; rw [Nat.beq_refl]; exact (decide_eq_true rfl).symm
    · rw [nbq hq, decide_eq_false hq]
  rw [e1]
set_option maxRecDepth 100000 in
theorem nb_3 {x : Int32} {l : List (Nat × Nat)} {a b c : Nat} (h : nbR x l c) (h1 : c ≠ a) (h2 : c ≠ b) : nbR x (l ++ [(a, b)]) c := by
  obtain ⟨n, g1, g2, g3⟩ := h
  refine ⟨n, g1, g2, fun y hy => ?_⟩
  rw [g3 y hy, dor_a, show Nat.beq a c = false from nbq (Ne.symm h1), show Nat.beq b c = false from nbq (Ne.symm h2), Bool.false_and, Bool.and_false, Bool.or_false, Bool.or_false]
/-- the reader's house (or another one's) is that one; p: the plan, g: what acts change -/
def RC (h : zH) (p g : Nat) (σ : hSt) : Prop := ((h.2.1 p 0).toInt = (sR σ : Int) ∧ (h.2.1 p 1).toInt = (sD σ : Int) ∧ (h.2.1 p 2).toInt = (sP σ : Int)) ∧ (∀ a, a < 12 → nbR (h.2.1 (p + 3) a) (sdl σ) a) ∧
  (∀ q, q < sP σ → (h.2.1 (p + 4) q).toInt = (ssl σ q : Int)) ∧ (∀ q, q < sP σ → ∀ k, k < ssl σ q → (h.2.1 (p + 5) (12 * q + k)).toInt = (swk σ q k : Int)) ∧
  (∀ r, r < 12 → (h.2.1 (g + 1) r).toInt = spt σ r) ∧ (∀ q, q < 8 → (h.2.1 (g + 2) q).toInt = spl σ q) ∧ (∀ q, q < sP σ → (h.2.1 (g + 3) q).toInt = skp σ q) ∧ (∀ q, q < 8 → (h.2.1 (g + 4) q).toInt = swt σ q)
/-- well made -/
def WF (σ : hSt) : Prop := sR σ ≤ 12 ∧ sD σ ≤ 20 ∧ sP σ ≤ 8 ∧ (sdl σ).length = sD σ ∧ (∀ q, q ∈ sdl σ → q.1 < sR σ ∧ q.2 < sR σ) ∧ ∀ p, p < sP σ → ssl σ p ≤ 12
set_option maxRecDepth 100000 in
theorem RC_S {h h' : zH} {σ : hSt} (hR : RC h 63 69 σ) (hS : SM h h') : RC h' 63 69 σ := by
  obtain ⟨⟨q1, q2, q3⟩, q4, q5, q6, q7, q8, q9, q10⟩ := hR
  have f66 := hS.2 66 (by omega)
  have f67 := hS.2 67 (by omega)
  have f68 := hS.2 68 (by omega)
  have f70 := hS.2 70 (by omega)
  have f71 := hS.2 71 (by omega)
  have f72 := hS.2 72 (by omega)
  have f73 := hS.2 73 (by omega)
  refine ⟨⟨by rw [hS.1 0 (by decide)]; exact q1, by rw [hS.1 1 (by decide)]; exact q2, by rw [hS.1 2 (by decide)]; exact q3⟩, ?_, ?_, ?_, ?_, ?_, ?_, ?_⟩
  · show ∀ a, a < 12 → nbR (h'.2.1 66 a) (sdl σ) a
    rw [f66]; exact q4
  · show ∀ q, q < sP σ → (h'.2.1 67 q).toInt = (ssl σ q : Int)
    rw [f67]; exact q5
  · show ∀ q, q < sP σ → ∀ k, k < ssl σ q → (h'.2.1 68 (12 * q + k)).toInt = (swk σ q k : Int)
    rw [f68]; exact q6
  · show ∀ r, r < 12 → (h'.2.1 70 r).toInt = spt σ r
    rw [f70]; exact q7
  · show ∀ q, q < 8 → (h'.2.1 71 q).toInt = spl σ q
    rw [f71]; exact q8
  · show ∀ q, q < sP σ → (h'.2.1 72 q).toInt = skp σ q
    rw [f72]; exact q9
  · show ∀ q, q < 8 → (h'.2.1 73 q).toInt = swt σ q
    rw [f73]; exact q10
def ttQ (h0 : zH) (L : Nat) (h : zH) (s : Nat) (r : (Int × Int × Nat) ⊕ Nat) (o : Option zR) : Prop := match r with
  | .inl (a, b, e) => ∃ h', o = some (.inl (some (.int 1)), h') ∧ XL h0 L h' e ∧ SM h h' ∧ (h'.2.1 62 3).toInt = a ∧ (h'.2.1 62 4).toInt = b ∧ (h'.2.1 62 5).toInt = (nxt (tp2 h0) L s : Int)
  | .inr w => ∃ h', o = some (.inl (some (.int 0)), h') ∧ bRQ ctb wX h0 0 0 h' ∧ (h'.2.1 1 1).toInt = (L : Int) ∧ (h'.2.1 62 2).toInt = (w : Int)
section TT
variable {E : zE} {B F : Nat} {h0 h : zH} {L s : Nat}
set_option maxRecDepth 100000 in
theorem troomE (hE : E.1 < 2147483648) (hsm : bSO E ctb B (60, smT)) (hb9 : ∀ i, 0 ≤ tp2 h0 i ∧ tp2 h0 i ≤ 255) (hF : 1000000 ≤ F) (hL4 : L ≤ 400) (hX : XL h0 L h s) {R : Nat} (hR : (h.2.1 63 0).toInt = (R : Int)) (hR9 : R ≤ 12) :
    ∀ d f, 62 ≤ d → B + F * 902 ≤ f → tnQ h0 L h s (nmq (tp2 h0) L s 0 ((R : Int) - 1)) (zex E f d 133 0 [some (.ref 62), some (.ref 1)] [] h) := by
  intro d f hd hf
  obtain ⟨d', hd'⟩ : ∃ d', d = d' + 1 := ⟨d - 1, by omega⟩
  obtain ⟨n, hn⟩ : ∃ n, f = n + 10 := ⟨f - 10, by omega⟩
  subst hd' hn
  have hhi : ((h.2.1 63 0) - 1).toInt = (R : Int) - 1 := by rw [i32_sub (by rw [hR, int1]; omega) (by rw [hR, int1]; omega), hR, int1]
  have key := tnumE hE hsm hb9 hF hL4 hX (lo := 0) (hi := (h.2.1 63 0) - 1) d' (n + 1) (by omega) (by omega)
  rw [zi0, hhi] at key
  have a62 := ha_62 hX.1
  have a63 := ha_63 hX.1
  cases hq : nmq (tp2 h0) L s 0 ((R : Int) - 1) with
  | none =>
    rw [hq] at key
    obtain ⟨h', e1, e2⟩ := key
    exact ⟨h', tr_0 (n := n) (d := d') a62 a63 e1, e2⟩
  | some v =>
    rw [hq] at key
    obtain ⟨h', e1, e2⟩ := key
    exact ⟨h', tr_1 (n := n) (d := d') a62 a63 e1, e2⟩
set_option maxRecDepth 100000 in
theorem twoE (hE : E.1 < 2147483648) (hsm : bSO E ctb B (60, smT)) (hb9 : ∀ i, 0 ≤ tp2 h0 i ∧ tp2 h0 i ≤ 255) (hF : 1000000 ≤ F) (hL4 : L ≤ 400) (hX : XL h0 L h s) {cn cm : Int32} (hn9 : 0 ≤ cn.toInt ∧ cn.toInt ≤ 12) :
    ∀ d f, 62 ≤ d → B + F * 902 ≤ f → ttQ h0 L h s (twoq (tp2 h0) L s (cn.toInt - 1) cm.toInt) (zex E f d 134 0 [some (.ref 62), some (.ref 1), some (.int cn), some (.int cm)] [] h) := by
  intro d f hd hf
  obtain ⟨d', hd'⟩ : ∃ d', d = d' + 1 := ⟨d - 1, by omega⟩
  obtain ⟨n, hn⟩ : ∃ n, f = n + 18 := ⟨f - 18, by omega⟩
  subst hd' hn
  have hhi : (cn - 1).toInt = cn.toInt - 1 := by rw [i32_sub (by rw [int1]; omega) (by rw [int1]; omega), int1]
  have key := tnumE hE hsm hb9 hF hL4 hX (lo := 0) (hi := cn - 1) d' (n + 11) (by omega) (by omega)
  rw [zi0, hhi] at key
  have a62 := ha_62 hX.1
  unfold twoq
  cases hq : nmq (tp2 h0) L s 0 (cn.toInt - 1) with
  | none =>
    rw [hq] at key
    obtain ⟨h', e1, e2⟩ := key
    exact ⟨h', tt_a (n := n + 8) (d := d') a62 e1, e2⟩
  | some v =>
    rw [hq] at key
    obtain ⟨h1, e1, e2, e3, e4, e5, e6⟩ := key
    have hX2 : XL h0 L (zsetI h1 62 (upd (h1.2.1 62) 3 (h1.2.1 62 4))) (nxt (tp2 h0) L s) := ⟨bRQ_62 e2.1 (by omega), ct_62 e2.2.1, e2.2.2⟩
    have key2 := tnumE hE hsm hb9 hF hL4 hX2 (lo := 0) (hi := cm) d' (n + 1) (by omega) (by omega)
    rw [zi0] at key2
    have b62 := ha_62 e2.1
    dsimp only
    cases hq2 : nmq (tp2 h0) L (nxt (tp2 h0) L s) 0 cm.toInt with
    | none =>
      rw [hq2] at key2
      obtain ⟨h', g1, g2⟩ := key2
      exact ⟨h', tt_b0 (n := n) (d := d') a62 b62 e1 g1, g2⟩
    | some u =>
      rw [hq2] at key2
      obtain ⟨h', g1, g2, g3, g4, g5, g6⟩ := key2
      refine ⟨h', tt_b1 (n := n) (d := d') a62 b62 e1 g1, g2, SM_t e3 (SM_t SM_62 g3), ?_, g4, g5⟩
      rw [g6, zs_at, upd_e]
      exact e4
set_option maxRecDepth 100000 in
theorem leadE {l : List (Nat × Nat)} (h9 : ∀ a, a < 12 → nbR (h.2.1 66 a) l a) (a63 : zat h.1 63 = some (.inr (.inl (8, [none, none, none, none, some (some 64), some (some 65), some (some 66), some (some 67), some (some 68)])))) (a66 : zat h.1 66 = some (.inl (0, 12, []))) {a b : Int32} {A C : Nat} (ha : a.toInt = (A : Int)) (hA : A < 12) (hb : b.toInt = (C : Int)) (hC : C < 12) :
    ∀ (E : zE) f d, zex E (f + 20) d 171 0 [some (.ref 63), some (.int a), some (.int b)] [] h = some (.inl (some (.int (if lead l A C = true then 1 else 0))), h) := by
  intro E f d
  have hn := nb_t (h9 A hA) hb hC
  unfold lead
  by_cases hac : A = C
  · subst hac
    rw [Nat.beq_refl, Bool.true_or, if_pos rfl]
    exact ld63_a (E := E) (n := f + 14) (d := d) (by rw [ha, hb])
  · rw [nbq hac, Bool.false_or]
    by_cases hd : dor l A C = true
    · rw [if_pos hd]
      rw [if_pos hd] at hn
      exact ld63_b (E := E) (n := f + 5) (d := d) (A := A) (by rw [ha, hb]; omega) ha hA rfl (by rw [hn]; decide) a63 a66
    · rw [if_neg hd]
      rw [if_neg hd] at hn
      exact ld63_c (E := E) (n := f + 6) (d := d) (A := A) (by rw [ha, hb]; omega) ha hA rfl hn a63 a66
end TT
