/-! flows: which rows of the reference's stand as they were; 1: row 88, 2: row 85 below 777 (wip/zab2/c/genfl.py) -/
abbrev fK : Type := List (Option Nat)
abbrev fT : Type := List (Nat × Nat × fK)
abbrev fC : Type := Nat × Nat × Nat × fT
def fHd (p : Nat → Int32) (φ : Nat) (h : zH) : Prop := (Nat.testBit φ 0 = true → ∀ k, k < 777 → h.2.1 88 k = p k) ∧ (Nat.testBit φ 1 = true → ∀ k, k < 777 → h.2.1 85 k = p k)
def fsb (a b : Nat) : Bool := Nat.beq (Nat.land a b) a
set_option maxRecDepth 100000 in
theorem fsb_t {a b i : Nat} (h : fsb a b = true) (e : Nat.testBit a i = true) : Nat.testBit b i = true := by
  have h1 := abq h
  have h2 : Nat.testBit (a &&& b) i = true := by rw [show a &&& b = a from h1]; exact e
  rw [Nat.testBit_and, Bool.and_eq_true] at h2
  exact h2.2
set_option maxRecDepth 100000 in
theorem fHd_s {p : Nat → Int32} {a b : Nat} {h : zH} (e : fsb a b = true) (q : fHd p b h) : fHd p a h := ⟨fun z => q.1 (fsb_t e z), fun z => q.2 (fsb_t e z)⟩
def fKR : fK → List Value → Prop
  | [], _ => True
  | _ :: _, [] => True
  | a :: l, v :: m => (∀ c, a = some c → v = .ref c) ∧ fKR l m
set_option maxRecDepth 100000 in
theorem fKR_0 {st : List Value} : fKR [] st := by cases st <;> exact trivial
set_option maxRecDepth 100000 in
theorem fKR_n {l : fK} : fKR l [] := by cases l <;> exact trivial
set_option maxRecDepth 100000 in
theorem fKR_d {ak : fK} {v : Value} {r : List Value} (h : fKR ak (v :: r)) : fKR (ak.drop 1) r := by
  cases ak with
  | nil => exact fKR_0
  | cons a l => exact h.2
set_option maxRecDepth 100000 in
theorem fKR_p {ak : fK} {v : Value} {r : List Value} (h : fKR ak r) : fKR (none :: ak) (v :: r) := ⟨fun c z => (by cases z), h⟩
set_option maxRecDepth 100000 in
theorem fKR_c {ak : fK} {c : Nat} {r : List Value} (h : fKR ak r) : fKR (some c :: ak) (.ref c :: r) := ⟨fun d z => (by cases z; rfl), h⟩
set_option maxRecDepth 100000 in
theorem drop_2 {α : Type} {l : List α} : l.drop 2 = (l.drop 1).drop 1 := by rw [List.drop_drop]
set_option maxRecDepth 100000 in
theorem drop_3 {α : Type} {l : List α} : l.drop 3 = ((l.drop 1).drop 1).drop 1 := by rw [List.drop_drop, List.drop_drop]
set_option maxRecDepth 100000 in
theorem fKR_d2 {ak : fK} {u v : Value} {r : List Value} (h : fKR ak (u :: v :: r)) : fKR (ak.drop 2) r := by rw [drop_2]; exact fKR_d (fKR_d h)
set_option maxRecDepth 100000 in
theorem fKR_d3 {ak : fK} {u v w : Value} {r : List Value} (h : fKR ak (u :: v :: w :: r)) : fKR (ak.drop 3) r := by rw [drop_3]; exact fKR_d (fKR_d (fKR_d h))
set_option maxRecDepth 100000 in
theorem fKR_dn : ∀ {l : List Value} {ak : fK} {r : List Value}, fKR ak (l ++ r) → fKR (ak.drop l.length) r
  | [], _, _, h => h
  | v :: l, ak, r, h => by
    have := fKR_dn (l := l) (fKR_d h)
    rw [List.drop_drop] at this
    rw [List.length_cons, Nat.add_comm]
    exact this
/-- what is known at a place of the stack; 0: nothing -/
def fat : fK → Nat → Nat
  | [], _ => 0
  | a :: _, 0 => a.getD 0
  | _ :: l, n + 1 => fat l n
set_option maxRecDepth 100000 in
theorem fat_s : ∀ {l : List Value} {ak : fK} {v : Value} {r : List Value} {c : Nat}, fKR ak (l ++ v :: r) → fat ak l.length = c → c ≠ 0 → v = .ref c
  | [], [], _, _, _, _, e, hc => absurd e.symm hc
  | [], a :: ak, v, r, c, h, e, hc => by
    have e : a.getD 0 = c := e
    cases a with
    | none => exact absurd e.symm hc
    | some b =>
      have e : b = c := e
      exact h.1 c (by rw [e])
  | u :: l, [], v, r, c, h, e, hc => absurd e.symm hc
  | u :: l, a :: ak, v, r, c, h, e, hc => fat_s (l := l) (ak := ak) h.2 e hc
def fle : fK → fK → Bool
  | [], _ => true
  | none :: l, [] => fle l []
  | none :: l, _ :: m => fle l m
  | some _ :: _, [] => false
  | some _ :: _, none :: _ => false
  | some c :: l, some b :: m => Nat.beq c b && fle l m
set_option maxRecDepth 100000 in
theorem fle_s : ∀ {a b : fK} {st : List Value}, fle a b = true → fKR b st → fKR a st
  | [], _, _, _, _ => fKR_0
  | _ :: _, _, [], _, _ => fKR_n
  | none :: l, [], v :: m, e, _ => ⟨fun c z => (by cases z), fle_s (a := l) (b := []) e fKR_0⟩
  | none :: l, b :: m', v :: m, e, h => ⟨fun c z => (by cases z), fle_s (a := l) (b := m') e h.2⟩
  | some c :: l, some b :: m', v :: m, e, h => by
    have e : (Nat.beq c b && fle l m') = true := e
    rw [Bool.and_eq_true] at e
    refine ⟨fun d z => ?_, fle_s e.2 h.2⟩
    cases z
    rw [abq e.1]
    exact h.1 b rfl
  | some c :: l, none :: m', v :: m, e, h => nomatch (show false = true from e)
  | some c :: l, [], v :: m, e, h => nomatch (show false = true from e)
def flk : fT → Nat → Option (Nat × fK)
  | [], _ => none
  | (p, x) :: l, pc => cond (Nat.beq p pc) (some x) (flk l pc)
set_option maxRecDepth 100000 in
theorem flk_m : ∀ {t : fT} {pc : Nat} {x : Nat × fK}, flk t pc = some x → (pc, x) ∈ t
  | [], _, _, e => nomatch e
  | (p, y) :: l, pc, x, e => by
    unfold flk at e
    cases hb : Nat.beq p pc with
    | true =>
      rw [hb, cond_true] at e
      cases e
      rw [← abq hb]
      exact List.mem_cons_self
    | false =>
      rw [hb, cond_false] at e
      exact List.mem_cons_of_mem _ (flk_m e)
def fgo (t : fT) (pc φ : Nat) (ak : fK) : Bool := match flk t pc with
  | some (φ', ak') => fsb φ' φ && fle ak' ak
  | none => false
def ffind : List fC → Nat → Nat → Option Nat
  | [], _, _ => none
  | (j, a, b, _) :: l, i, φ => cond (Nat.beq j i && Nat.beq a φ) (some b) (ffind l i φ)
set_option maxRecDepth 100000 in
theorem ffind_m : ∀ {l : List fC} {i φ b : Nat}, ffind l i φ = some b → ∃ t, (i, φ, b, t) ∈ l
  | [], _, _, _, e => nomatch e
  | (j, a, c, t) :: l, i, φ, b, e => by
    unfold ffind at e
    cases hb : (Nat.beq j i && Nat.beq a φ) with
    | true =>
      rw [hb, cond_true] at e
      cases e
      rw [Bool.and_eq_true] at hb
      exact ⟨t, by rw [← abq hb.1, ← abq hb.2]; exact List.mem_cons_self⟩
    | false =>
      rw [hb, cond_false] at e
      obtain ⟨t', h⟩ := ffind_m e
      exact ⟨t', List.mem_cons_of_mem _ h⟩
def sl85 : List (Option (Option Nat)) := [none, some (some 85), some (some 86), some (some 87), some (some 88), some (some 89), none, none, some (some 90), none, none, none, none, none, none, some (some 91), none, some (some 92), some (some 93)]
def fsl (k : Nat) : Option Nat := match zat sl85 k with
  | some (some o) => o
  | _ => none
def fin9 (k : Nat) : Bool := match zat sl85 k with
  | some none => true
  | _ => false
def fkl (c φ : Nat) : Nat := cond (Nat.beq c 85) (Nat.land φ 1) (cond (Nat.beq c 88) (Nat.land φ 2) φ)
def finst (mi : Nat) : Bool := match zat zmi mi with
  | some (_, _, 0, _, _, _) => true
  | _ => false
def frk (mi : Nat) : Nat := match zat zmi mi with
  | some (_, _, _, _, rk, _) => rk
  | none => 0
def fcall (F : List fC) (t : fT) (φ : Nat) (ak : fK) (nx j : Nat) : Bool := match zat zmi j with
  | some (na, _, stc, _, rk, _) => cond (Nat.blt 0 stc || (Nat.blt 0 na && Nat.beq (fat ak (na - 1)) 84)) (cond (Nat.beq j 293) (Nat.testBit φ 1 && fgo t nx (Nat.lor φ 1) (ak.drop 1)) (cond (Nat.beq j 294) (Nat.testBit φ 0 && fgo t nx (Nat.lor φ 2) (ak.drop 1)) (match ffind F j φ with
    | some b => fgo t nx b (cond (Nat.beq rk 0) (ak.drop na) (none :: ak.drop na))
    | none => false))) false
  | none => false
def fck (F : List fC) (inst : Bool) (post : Nat) (t : fT) (φ : Nat) (ak : fK) (pc ln a1 a2 : Nat) : Instr → Bool
  | .iconst _ => fgo t (pc + ln) φ (none :: ak)
  | .bipush _ => fgo t (pc + ln) φ (none :: ak)
  | .sipush _ => fgo t (pc + ln) φ (none :: ak)
  | .ldc _ => fgo t (pc + ln) φ (none :: ak)
  | .ldc_w _ => fgo t (pc + ln) φ (none :: ak)
  | .iload _ => fgo t (pc + ln) φ (none :: ak)
  | .iload_n _ => fgo t (pc + ln) φ (none :: ak)
  | .aload_n i => fgo t (pc + ln) φ (cond (inst && Nat.beq i.val 0) (some 84) none :: ak)
  | .istore i => (Nat.blt 0 i || !inst) && fgo t (pc + ln) φ (ak.drop 1)
  | .istore_n i => (Nat.blt 0 i.val || !inst) && fgo t (pc + ln) φ (ak.drop 1)
  | .iinc i _ => (Nat.blt 0 i || !inst) && fgo t (pc + ln) φ ak
  | .iadd => fgo t (pc + ln) φ (none :: ak.drop 2)
  | .isub => fgo t (pc + ln) φ (none :: ak.drop 2)
  | .imul => fgo t (pc + ln) φ (none :: ak.drop 2)
  | .iand => fgo t (pc + ln) φ (none :: ak.drop 2)
  | .ior => fgo t (pc + ln) φ (none :: ak.drop 2)
  | .ixor => fgo t (pc + ln) φ (none :: ak.drop 2)
  | .ishl => fgo t (pc + ln) φ (none :: ak.drop 2)
  | .ishr => fgo t (pc + ln) φ (none :: ak.drop 2)
  | .iushr => fgo t (pc + ln) φ (none :: ak.drop 2)
  | .idiv => fgo t (pc + ln) φ (none :: ak.drop 2)
  | .irem => fgo t (pc + ln) φ (none :: ak.drop 2)
  | .getfield _ => fgo t (pc + ln) φ (cond (Nat.beq (fat ak 0) 84) (fsl a2) none :: ak.drop 1)
  | .putfield _ => Nat.beq (fat ak 1) 84 && fin9 a2 && fgo t (pc + ln) φ (ak.drop 2)
  | .iaload => fgo t (pc + ln) φ (none :: ak.drop 2)
  | .iastore => Nat.blt 0 (fat ak 2) && fgo t (pc + ln) (fkl (fat ak 2) φ) (ak.drop 3)
  | .dup => fgo t (pc + ln) φ (cond (Nat.blt 0 ak.length) (ak.take 1 ++ ak) [])
  | .dup2 => fgo t (pc + ln) φ (cond (Nat.blt 1 ak.length) (ak.take 2 ++ ak) [])
  | .pop => fgo t (pc + ln) φ (ak.drop 1)
  | .goto _ => fgo t a1 φ ak
  | .ifCond _ _ => fgo t a1 φ (ak.drop 1) && fgo t (pc + ln) φ (ak.drop 1)
  | .if_icmp _ _ => fgo t a1 φ (ak.drop 2) && fgo t (pc + ln) φ (ak.drop 2)
  | .tableswitch .. => (match zat zsws a1 with
    | some (l, d) => fgo t d φ (ak.drop 1) && l.all fun q => fgo t q.2 φ (ak.drop 1)
    | none => false)
  | .invokevirtual _ => Nat.beq a1 0 && fcall F t φ ak (pc + ln) a2
  | .invokespecial _ => Nat.beq a1 0 && fcall F t φ ak (pc + ln) a2
  | .invokestatic _ => (match a1 with
    | 0 => fcall F t φ ak (pc + ln) a2
    | 2 => fgo t (pc + ln) φ (none :: ak.drop 2)
    | 3 => fgo t (pc + ln) φ (none :: ak.drop 2)
    | _ => false)
  | .ireturn => fsb post φ
  | .return_ => fsb post φ
  | _ => false
def fPost (S : List zS) (p : Nat → Int32) (mi post : Nat) (r : Option Value ⊕ Nat) (h' : zH) : Prop := (∃ v, r = .inl v ∧ (frk mi = 0 → v = none) ∧ (frk mi ≠ 0 → ∃ x, v = some x)) ∧ h'.1 = S ∧ fHd p post h'
def fL0 (mi : Nat) (ls : zLs) : Prop := finst mi = true → zat ls 0 = some (some (.ref 84))
/-- from a place that is told -/
def fGd (E : zE) (S : List zS) (p : Nat → Int32) (n mi post : Nat) (t : fT) : Prop := ∀ pc φ ak, flk t pc = some (φ, ak) → ∀ d ls st h r h', h.1 = S → fHd p φ h → fL0 mi ls → fKR ak st → zex E n d mi pc ls st h = some (r, h') → fPost S p mi post r h'
def fAll (E : zE) (S : List zS) (p : Nat → Int32) (F : List fC) (n : Nat) : Prop := ∀ c, c ∈ F → fGd E S p n c.1 c.2.2.1 c.2.2.2
/-- the two copies -/
def fKP (E : zE) (S : List zS) : Prop := ∀ n d h r h', h.1 = S → (zex E n d 293 0 [some (.ref 84), none] [] h = some (r, h') → r = .inl none ∧ h'.1 = S ∧ (∀ k, k < 777 → h'.2.1 88 k = h.2.1 85 k) ∧ ∀ c, c ≠ 88 → h'.2.1 c = h.2.1 c) ∧
  (zex E n d 294 0 [some (.ref 84), none] [] h = some (r, h') → r = .inl none ∧ h'.1 = S ∧ (∀ k, k < 777 → h'.2.1 85 k = h.2.1 88 k) ∧ ∀ c, c ≠ 85 → h'.2.1 c = h.2.1 c)
set_option maxRecDepth 100000 in
theorem fgo_s {E : zE} {S : List zS} {p : Nat → Int32} {n mi post : Nat} {t : fT} (G : fGd E S p n mi post t) {pc φ : Nat} {ak : fK} (e : fgo t pc φ ak = true) {d : Nat} {ls : zLs} {st : List Value} {h h' : zH} {r : Option Value ⊕ Nat} (hS : h.1 = S) (hF : fHd p φ h) (hL : fL0 mi ls) (hK : fKR ak st) (hz : zex E n d mi pc ls st h = some (r, h')) : fPost S p mi post r h' := by
  unfold fgo at e
  split at e
  · rename_i φ' ak' hl
    rw [Bool.and_eq_true] at e
    exact G pc φ' ak' hl d ls st h r h' hS (fHd_s e.1 hF) hL (fle_s e.2 hK) hz
  · cases e
set_option maxRecDepth 100000 in
theorem fHd_1 {p : Nat → Int32} {φ : Nat} {h : zH} (q : fHd p φ h) {h1 : zH} (e1 : ∀ k, k < 777 → h1.2.1 88 k = h.2.1 85 k) (e2 : ∀ c, c ≠ 88 → h1.2.1 c = h.2.1 c) (hb : Nat.testBit φ 1 = true) : fHd p (Nat.lor φ 1) h1 := by
  refine ⟨fun _ k hk => ?_, fun _ k hk => ?_⟩
  · rw [e1 k hk]; exact q.2 hb k hk
  · rw [e2 85 (by decide)]; exact q.2 hb k hk
set_option maxRecDepth 100000 in
theorem fHd_2 {p : Nat → Int32} {φ : Nat} {h : zH} (q : fHd p φ h) {h1 : zH} (e1 : ∀ k, k < 777 → h1.2.1 85 k = h.2.1 88 k) (e2 : ∀ c, c ≠ 85 → h1.2.1 c = h.2.1 c) (hb : Nat.testBit φ 0 = true) : fHd p (Nat.lor φ 2) h1 := by
  refine ⟨fun _ k hk => ?_, fun _ k hk => ?_⟩
  · rw [e2 88 (by decide)]; exact q.1 hb k hk
  · rw [e1 k hk]; exact q.1 hb k hk
set_option maxRecDepth 100000 in
theorem tb_land {a b i : Nat} (h : Nat.testBit (Nat.land a b) i = true) : Nat.testBit a i = true ∧ Nat.testBit b i = true := by
  have h : Nat.testBit (a &&& b) i = true := h
  rw [Nat.testBit_and, Bool.and_eq_true] at h
  exact h
set_option maxRecDepth 100000 in
theorem fHd_w {p : Nat → Int32} {φ c j : Nat} {y : Int32} {h : zH} (q : fHd p φ h) : fHd p (fkl c φ) (zsetI h c (upd (h.2.1 c) j y)) := by
  unfold fkl
  cases h1 : Nat.beq c 85 with
  | true =>
    rw [cond_true]
    have hc := abq h1
    refine ⟨fun z k hk => ?_, fun z => ?_⟩
    · rw [zs_ne (by omega)]; exact q.1 (tb_land z).1 k hk
    · exact absurd (tb_land z).2 (by decide)
  | false =>
    rw [cond_false]
    have hc : c ≠ 85 := fun z => by rw [z] at h1; cases h1
    cases h2 : Nat.beq c 88 with
    | true =>
      rw [cond_true]
      have hc8 := abq h2
      refine ⟨fun z => ?_, fun z k hk => ?_⟩
      · exact absurd (tb_land z).2 (by decide)
      · rw [zs_ne (by omega)]; exact q.2 (tb_land z).1 k hk
    | false =>
      rw [cond_false]
      have hc8 : c ≠ 88 := fun z => by rw [z] at h2; cases h2
      exact ⟨fun z k hk => by rw [zs_ne (Ne.symm hc8)]; exact q.1 z k hk, fun z k hk => by rw [zs_ne (Ne.symm hc)]; exact q.2 z k hk⟩
set_option maxRecDepth 100000 in
theorem fL0_st {mi i : Nat} {ls : zLs} {v : Value} (h : fL0 mi ls) (hi : (Nat.blt 0 i || !finst mi) = true) : fL0 mi (zstl ls i v) := by
  intro z
  have h1 := h z
  rw [z] at hi
  have hi : (Nat.blt 0 i || false) = true := hi
  rw [Bool.or_false] at hi
  have h2 := abl.mp hi
  obtain ⟨i', hi'⟩ : ∃ m, i = m + 1 := ⟨i - 1, by omega⟩
  subst hi'
  cases ls with
  | nil => cases h1
  | cons o l =>
    have h1 : o = some (.ref 84) := Option.some.inj h1
    subst h1
    show some (zkl i' (some (.ref 84))) = _
    cases i' <;> rfl
set_option maxRecDepth 100000 in
theorem inl_jj {r r' : Option Value ⊕ Nat} {h h' : zH} (e : some (r, h) = some (r', h')) : r = r' ∧ h = h' := by
  injection e with e
  injection e with e1 e2
  exact ⟨e1, e2⟩
set_option maxRecDepth 100000 in
theorem f293 : zat zmi 293 = some (1, 2, 0, 12, 0, 0) := rfl
set_option maxRecDepth 100000 in
theorem f294 : zat zmi 294 = some (1, 2, 0, 12, 0, 0) := rfl
set_option maxRecDepth 100000 in
theorem fcall_s {E : zE} {S : List zS} {p : Nat → Int32} {F : List fC} {n d mi post pc j : Nat} {tx : Bool} {t : fT} {φ : Nat} {ak : fK} {nx : Nat} {ls : zLs} {st : List Value} {h h' : zH} {r : Option Value ⊕ Nat} (hS84 : zat S 84 = some (.inr (.inl (12, sl85)))) (hKP : fKP E S) (hE0 : ∀ c, c ∈ F → flk c.2.2.2 0 = some (c.2.1, [])) (A : fAll E S p F n) (G : fGd E S p n mi post t) (hS : h.1 = S) (hF : fHd p φ h) (hL : fL0 mi ls) (hK : fKR ak st)
    (hk : fcall F t φ ak nx j = true) (e : zinv (zex E n) (zex E n d mi nx) d mi pc j tx ls st h = some (r, h')) : fPost S p mi post r h' := by
  obtain ⟨na, mL, stc, ci, rk, kd, as, r1, d', hj, hal, hst, -, -, hrec, -, hres⟩ := zinv_inv e
  unfold fcall at hk
  rw [hj] at hk
  dsimp only at hk
  obtain ⟨k1, k2⟩ := acnd hk
  have hdr : fKR (ak.drop na) r1 := by
    rw [hst] at hK
    have := fKR_dn hK
    rw [List.length_reverse, hal] at this
    exact this
  -- the receiver
  have hL0 : stc = 0 → zat (zent mL as) 0 = some (some (.ref 84)) := by
    intro hz
    obtain ⟨k, sl, rest, ha, -⟩ := hrec hz
    rw [hz] at k1
    have k1 : (Nat.blt 0 na && Nat.beq (fat ak (na - 1)) 84) = true := k1
    rw [Bool.and_eq_true] at k1
    have hn : na - 1 = rest.reverse.length := by rw [List.length_reverse, ← hal, ha]; rfl
    rw [hst, ha, List.reverse_cons, List.append_assoc] at hK
    have hv := fat_s (c := 84) (l := rest.reverse) (v := .ref k) (r := r1) hK (by rw [← hn]; exact abq k1.2) (by decide)
    rw [ha, hv]
    rfl
  cases hz : Nat.beq j 293 with
  | true =>
    have hz := abq hz
    subst hz
    have hq : (some (1, 2, 0, 12, 0, 0) : Option (Nat × Nat × Nat × Nat × Nat × Nat)) = some (na, mL, stc, ci, rk, kd) := by rw [← hj]; exact f293
    cases hq
    rw [Nat.beq_refl, cond_true, Bool.and_eq_true] at k2
    have ha : as = [.ref 84] := by
      have h0 := hL0 rfl
      match as, hal, h0 with
      | [v], _, h0 => exact congrArg (fun x => [x]) (Option.some.inj (Option.some.inj h0))
    subst ha
    rcases hres with ⟨v, h1, e1, e2⟩ | ⟨-, -, x, h1, e1, -⟩
    · obtain ⟨q1, q2, q3, q4⟩ := (hKP n d' h _ _ hS).1 e1
      cases q1
      exact fgo_s G k2.2 q2 (fHd_1 hF q3 q4 k2.1) hL hdr e2
    · obtain ⟨q1, -⟩ := (hKP n d' h _ _ hS).1 e1
      cases q1
  | false =>
    rw [hz, cond_false] at k2
    cases hz4 : Nat.beq j 294 with
    | true =>
      have hz4 := abq hz4
      subst hz4
      have hq : (some (1, 2, 0, 12, 0, 0) : Option (Nat × Nat × Nat × Nat × Nat × Nat)) = some (na, mL, stc, ci, rk, kd) := by rw [← hj]; exact f294
      cases hq
      rw [Nat.beq_refl, cond_true, Bool.and_eq_true] at k2
      have ha : as = [.ref 84] := by
        have h0 := hL0 rfl
        match as, hal, h0 with
        | [v], _, h0 => exact congrArg (fun x => [x]) (Option.some.inj (Option.some.inj h0))
      subst ha
      rcases hres with ⟨v, h1, e1, e2⟩ | ⟨-, -, x, h1, e1, -⟩
      · obtain ⟨q1, q2, q3, q4⟩ := (hKP n d' h _ _ hS).2 e1
        cases q1
        exact fgo_s G k2.2 q2 (fHd_2 hF q3 q4 k2.1) hL hdr e2
      · obtain ⟨q1, -⟩ := (hKP n d' h _ _ hS).2 e1
        cases q1
    | false =>
      rw [hz4, cond_false] at k2
      split at k2
      · rename_i b hb
        obtain ⟨t', hm⟩ := ffind_m hb
        have hG := A _ hm
        have h0 := hE0 _ hm
        have hLc : fL0 j (zent mL as) := by
          intro z
          refine hL0 ?_
          unfold finst at z
          rw [hj] at z
          cases stc with
          | zero => rfl
          | succ m => cases z
        have hrk : frk j = rk := by unfold frk; rw [hj]
        rcases hres with ⟨v, h1, e1, e2⟩ | ⟨-, -, x, h1, e1, -⟩
        · obtain ⟨⟨w, w1, w2, w3⟩, w4, w5⟩ := hG 0 _ _ h0 d' _ [] h _ _ hS hF hLc fKR_0 e1
          have w1 : v = w := Sum.inl.inj w1
          subst w1
          rw [hrk] at w2 w3
          cases hr0 : Nat.beq rk 0 with
          | true =>
            rw [hr0, cond_true] at k2
            rw [w2 (abq hr0)] at e2
            exact fgo_s G k2 w4 w5 hL hdr e2
          | false =>
            rw [hr0, cond_false] at k2
            obtain ⟨x, hx⟩ := w3 (fun z => by rw [z] at hr0; cases hr0)
            rw [hx] at e2
            exact fgo_s G k2 w4 w5 hL (fKR_p hdr) e2
        · obtain ⟨⟨w, w1, -⟩, -⟩ := hG 0 _ _ h0 d' _ [] h _ _ hS hF hLc fKR_0 e1
          cases w1
      · cases k2
set_option maxHeartbeats 4000000 in
set_option maxRecDepth 100000 in
theorem fins {E : zE} {S : List zS} {p : Nat → Int32} {F : List fC} {n d mi post pc : Nat} {t : fT} {φ : Nat} {ak : fK} {ls : zLs} {st : List Value} {h h' : zH} {ln a1 a2 a3 : Nat} {z : Int32} {ins : Instr} {r : Option Value ⊕ Nat} (hS84 : zat S 84 = some (.inr (.inl (12, sl85)))) (hKP : fKP E S) (hE0 : ∀ c, c ∈ F → flk c.2.2.2 0 = some (c.2.1, [])) (A : fAll E S p F n) (G : fGd E S p n mi post t) (hS : h.1 = S) (hF : fHd p φ h) (hL : fL0 mi ls) (hK : fKR ak st)
    (hk : fck F (finst mi) post t φ ak pc ln a1 a2 ins = true) (e : zins E (zex E n) d mi pc ls st h ln a1 a2 a3 z ins = some (r, h')) : fPost S p mi post r h' := by
  cases ins with
  | iconst i =>
    exact fgo_s G hk hS hF hL (fKR_p hK) e
  | bipush i =>
    exact fgo_s G hk hS hF hL (fKR_p hK) e
  | sipush i =>
    exact fgo_s G hk hS hF hL (fKR_p hK) e
  | ldc i =>
    dsimp only [zins] at e
    split at e
    all_goals first | exact fgo_s G hk hS hF hL (fKR_p hK) e | cases e
  | ldc_w i =>
    dsimp only [zins] at e
    split at e
    all_goals first | exact fgo_s G hk hS hF hL (fKR_p hK) e | cases e
  | iload i =>
    dsimp only [zins] at e
    obtain ⟨x, -, e⟩ := zldI_inv e
    exact fgo_s G hk hS hF hL (fKR_p hK) e
  | iload_n i =>
    dsimp only [zins] at e
    obtain ⟨x, -, e⟩ := zldI_inv e
    exact fgo_s G hk hS hF hL (fKR_p hK) e
  | aload_n i =>
    dsimp only [zins] at e
    obtain ⟨v, hv, -, e⟩ := zldA_inv e
    have key : fKR (cond (finst mi && Nat.beq i.val 0) (some 84) none :: ak) (v :: st) := by
      refine ⟨fun c hc => ?_, hK⟩
      cases hi : (finst mi && Nat.beq i.val 0) with
      | false => rw [hi, cond_false] at hc; cases hc
      | true =>
        rw [hi, cond_true] at hc
        cases hc
        rw [Bool.and_eq_true] at hi
        have h0 := hL hi.1
        rw [abq hi.2, h0] at hv
        exact (Option.some.inj (Option.some.inj hv)).symm
    exact fgo_s G hk hS hF hL key e
  | istore i =>
    dsimp only [zins] at e
    obtain ⟨x, r1, hst, e⟩ := zstI_inv e
    have hk : ((Nat.blt 0 i || !finst mi) && fgo t (pc + ln) φ (ak.drop 1)) = true := hk
    rw [Bool.and_eq_true] at hk
    rw [hst] at hK
    exact fgo_s G hk.2 hS hF (fL0_st hL hk.1) (fKR_d hK) e
  | istore_n i =>
    dsimp only [zins] at e
    obtain ⟨x, r1, hst, e⟩ := zstI_inv e
    have hk : ((Nat.blt 0 i.val || !finst mi) && fgo t (pc + ln) φ (ak.drop 1)) = true := hk
    rw [Bool.and_eq_true] at hk
    rw [hst] at hK
    exact fgo_s G hk.2 hS hF (fL0_st hL hk.1) (fKR_d hK) e
  | iinc i j =>
    dsimp only [zins] at e
    obtain ⟨x, -, e⟩ := zinc_inv e
    have hk : ((Nat.blt 0 i || !finst mi) && fgo t (pc + ln) φ ak) = true := hk
    rw [Bool.and_eq_true] at hk
    exact fgo_s G hk.2 hS hF (fL0_st hL hk.1) hK e
  | iadd =>
    dsimp only [zins] at e
    obtain ⟨a, b, r1, hst, e⟩ := zb2_inv e
    rw [hst] at hK
    exact fgo_s G hk hS hF hL (fKR_p (fKR_d2 hK)) e
  | isub =>
    dsimp only [zins] at e
    obtain ⟨a, b, r1, hst, e⟩ := zb2_inv e
    rw [hst] at hK
    exact fgo_s G hk hS hF hL (fKR_p (fKR_d2 hK)) e
  | imul =>
    dsimp only [zins] at e
    obtain ⟨a, b, r1, hst, e⟩ := zb2_inv e
    rw [hst] at hK
    exact fgo_s G hk hS hF hL (fKR_p (fKR_d2 hK)) e
  | iand =>
    dsimp only [zins] at e
    obtain ⟨a, b, r1, hst, e⟩ := zb2_inv e
    rw [hst] at hK
    exact fgo_s G hk hS hF hL (fKR_p (fKR_d2 hK)) e
  | ior =>
    dsimp only [zins] at e
    obtain ⟨a, b, r1, hst, e⟩ := zb2_inv e
    rw [hst] at hK
    exact fgo_s G hk hS hF hL (fKR_p (fKR_d2 hK)) e
  | ixor =>
    dsimp only [zins] at e
    obtain ⟨a, b, r1, hst, e⟩ := zb2_inv e
    rw [hst] at hK
    exact fgo_s G hk hS hF hL (fKR_p (fKR_d2 hK)) e
  | ishl =>
    dsimp only [zins] at e
    obtain ⟨a, b, r1, hst, e⟩ := zb2_inv e
    rw [hst] at hK
    exact fgo_s G hk hS hF hL (fKR_p (fKR_d2 hK)) e
  | ishr =>
    dsimp only [zins] at e
    obtain ⟨a, b, r1, hst, e⟩ := zb2_inv e
    rw [hst] at hK
    exact fgo_s G hk hS hF hL (fKR_p (fKR_d2 hK)) e
  | iushr =>
    dsimp only [zins] at e
    obtain ⟨a, b, r1, hst, e⟩ := zb2_inv e
    rw [hst] at hK
    exact fgo_s G hk hS hF hL (fKR_p (fKR_d2 hK)) e
  | idiv =>
    dsimp only [zins] at e
    split at e
    · exact fgo_s G hk hS hF hL (fKR_p (fKR_d2 hK)) (znz_inv e).2
    · cases e
  | irem =>
    dsimp only [zins] at e
    split at e
    · exact fgo_s G hk hS hF hL (fKR_p (fKR_d2 hK)) (znz_inv e).2
    · cases e
  | getfield i =>
    dsimp only [zins] at e
    obtain ⟨a, r1, sl, hst, hsh, hc⟩ := zget_inv e
    rw [hst] at hK
    have key : ∀ w, ((zat sl a2 = some none ∧ True) ∨ ∃ o, zat sl a2 = some (some o) ∧ w = zrf o) → fKR (cond (Nat.beq (fat ak 0) 84) (fsl a2) none :: ak.drop 1) (w :: r1) := by
      intro w hw
      refine ⟨fun c hc9 => ?_, fKR_d hK⟩
      cases hb : Nat.beq (fat ak 0) 84 with
      | false => rw [hb, cond_false] at hc9; cases hc9
      | true =>
        rw [hb, cond_true] at hc9
        have h84 := fat_s (c := 84) (l := []) hK (abq hb) (by decide)
        cases h84
        rw [hS, hS84] at hsh
        have hsl : (12, sl85) = (a1, sl) := Sum.inl.inj (Sum.inr.inj (Option.some.inj hsh))
        have hsl : sl85 = sl := congrArg Prod.snd hsl
        subst hsl
        unfold fsl at hc9
        rcases hw with ⟨h1, -⟩ | ⟨o, h1, h2⟩
        · rw [h1] at hc9; cases hc9
        · rw [h1] at hc9
          have hc9 : o = some c := hc9
          rw [h2, hc9]
          rfl
    rcases hc with ⟨h1, e⟩ | ⟨o, h1, e⟩
    · exact fgo_s G hk hS hF hL (key _ (Or.inl ⟨h1, trivial⟩)) e
    · exact fgo_s G hk hS hF hL (key _ (Or.inr ⟨o, h1, rfl⟩)) e
  | putfield i =>
    dsimp only [zins] at e
    have hk : (Nat.beq (fat ak 1) 84 && fin9 a2 && fgo t (pc + ln) φ (ak.drop 2)) = true := hk
    rw [Bool.and_eq_true, Bool.and_eq_true] at hk
    obtain ⟨⟨k1, k2⟩, k3⟩ := hk
    rcases zput_inv e with ⟨y, a, r1, sl, hst, hsh, hs, -, e⟩ | ⟨b, a, r1, sl, o, hst, hsh, hs, e⟩
    · rw [hst] at hK
      have h84 := fat_s (c := 84) (l := [.int y]) hK (abq k1) (by decide)
      cases h84
      refine fgo_s G k3 (by exact hS) ?_ hL (fKR_d2 hK) e
      exact ⟨fun w k hk => by rw [zs_ne (by decide)]; exact hF.1 w k hk, fun w k hk => by rw [zs_ne (by decide)]; exact hF.2 w k hk⟩
    · exfalso
      rw [hst] at hK
      have h84 := fat_s (c := 84) (l := [.ref b]) hK (abq k1) (by decide)
      cases h84
      rw [hS, hS84] at hsh
      have hsl : (12, sl85) = (a1, sl) := Sum.inl.inj (Sum.inr.inj (Option.some.inj hsh))
      have hsl : sl85 = sl := congrArg Prod.snd hsl
      subst hsl
      unfold fin9 at k2
      rw [hs] at k2
      cases k2
  | iaload =>
    dsimp only [zins] at e
    rcases zald_inv e with ⟨j, a, r1, n1, rf, hst, -, -, e⟩ | ⟨j, f, r1, hst, -, e⟩
    · rw [hst] at hK
      exact fgo_s G hk hS hF hL (fKR_p (fKR_d2 hK)) e
    · rw [hst] at hK
      exact fgo_s G hk hS hF hL (fKR_p (fKR_d2 hK)) e
  | iastore =>
    dsimp only [zins] at e
    obtain ⟨x, j, a, r1, n1, rf, hst, -, -, e⟩ := zast_inv e
    have hk : (Nat.blt 0 (fat ak 2) && fgo t (pc + ln) (fkl (fat ak 2) φ) (ak.drop 3)) = true := hk
    rw [Bool.and_eq_true] at hk
    have h0 := abl.mp hk.1
    rw [hst] at hK
    have ha := fat_s (l := [.int x, .int j]) hK (show fat ak 2 = fat ak 2 from rfl) (by omega)
    have ha : a = fat ak 2 := by cases ha; rfl
    have k2 := hk.2
    rw [← ha] at k2
    exact fgo_s G k2 (by exact hS) (fHd_w hF) hL (fKR_d3 hK) e
  | dup =>
    dsimp only [zins] at e
    split at e
    · rename_i v r1
      refine fgo_s G hk hS hF hL ?_ (zcond e).2
      cases ak with
      | nil => exact fKR_0
      | cons a l => exact ⟨hK.1, hK⟩
    · cases e
  | dup2 =>
    dsimp only [zins] at e
    split at e
    · rename_i v u r1
      refine fgo_s G hk hS hF hL ?_ (zcond e).2
      match ak, hK with
      | [], _ => exact fKR_0
      | [a], _ => exact fKR_0
      | a :: b :: l, hK => exact ⟨hK.1, hK.2.1, hK⟩
    · cases e
  | pop =>
    dsimp only [zins] at e
    split at e
    · exact fgo_s G hk hS hF hL (fKR_d hK) (zcond e).2
    · cases e
  | goto i =>
    exact fgo_s G hk hS hF hL hK e
  | ifCond c o =>
    dsimp only [zins] at e
    obtain ⟨x, r1, hst, h1, h2⟩ := zif1_inv e
    have hk : (fgo t a1 φ (ak.drop 1) && fgo t (pc + ln) φ (ak.drop 1)) = true := hk
    rw [Bool.and_eq_true] at hk
    rw [hst] at hK
    by_cases hc : zc0 c x
    · exact fgo_s G hk.1 hS hF hL (fKR_d hK) (h1 hc)
    · exact fgo_s G hk.2 hS hF hL (fKR_d hK) (h2 hc)
  | if_icmp c o =>
    dsimp only [zins] at e
    obtain ⟨x, y, r1, hst, h1, h2⟩ := zif2_inv e
    have hk : (fgo t a1 φ (ak.drop 2) && fgo t (pc + ln) φ (ak.drop 2)) = true := hk
    rw [Bool.and_eq_true] at hk
    rw [hst] at hK
    by_cases hc : zcc c x y
    · exact fgo_s G hk.1 hS hF hL (fKR_d2 hK) (h1 hc)
    · exact fgo_s G hk.2 hS hF hL (fKR_d2 hK) (h2 hc)
  | tableswitch b1 b2 b3 b4 =>
    dsimp only [zins] at e
    split at e
    · rename_i x r1
      split at e
      · rename_i l dd hl
        have hk : (match zat zsws a1 with | some (l, d) => fgo t d φ (ak.drop 1) && l.all fun q => fgo t q.2 φ (ak.drop 1) | none => false) = true := hk
        rw [hl] at hk
        dsimp only at hk
        rw [Bool.and_eq_true] at hk
        rcases zsw_inv e with ⟨tt, hm, e⟩ | ⟨-, e⟩
        · exact fgo_s G (List.all_eq_true.mp hk.2 _ hm) hS hF hL (fKR_d hK) e
        · exact fgo_s G hk.1 hS hF hL (fKR_d hK) e
      · cases e
    · cases e
  | invokevirtual i =>
    have hk : (Nat.beq a1 0 && fcall F t φ ak (pc + ln) a2) = true := hk
    rw [Bool.and_eq_true] at hk
    have h0 := abq hk.1
    subst h0
    dsimp only [zins] at e
    exact fcall_s hS84 hKP hE0 A G hS hF hL hK hk.2 e
  | invokespecial i =>
    have hk : (Nat.beq a1 0 && fcall F t φ ak (pc + ln) a2) = true := hk
    rw [Bool.and_eq_true] at hk
    have h0 := abq hk.1
    subst h0
    dsimp only [zins] at e
    exact fcall_s hS84 hKP hE0 A G hS hF hL hK hk.2 e
  | invokestatic i =>
    dsimp only [zins] at e
    match a1, hk, e with
    | 0, hk, e => exact fcall_s hS84 hKP hE0 A G hS hF hL hK hk e
    | 1, hk, e => exact nomatch (show false = true from hk)
    | 2, hk, e =>
      rcases zpri_inv e with ⟨q, a, r1, -, -, e⟩ | ⟨-, x, y, r1, hst, -, e⟩ | ⟨q, x, y, r1, -, -, e⟩ | ⟨q, i, r1, bs, -, -, -, e⟩ | ⟨q, j, i, r1, bs, b, -, -, -, -, -, e⟩ | ⟨q, e⟩
      · cases q
      · rw [hst] at hK
        exact fgo_s G hk hS hF hL (fKR_p (fKR_d2 hK)) e
      · cases q
      · cases q
      · cases q
      · cases q
    | 3, hk, e =>
      rcases zpri_inv e with ⟨q, a, r1, -, -, e⟩ | ⟨q, x, y, r1, -, -, e⟩ | ⟨-, x, y, r1, hst, -, e⟩ | ⟨q, i, r1, bs, -, -, -, e⟩ | ⟨q, j, i, r1, bs, b, -, -, -, -, -, e⟩ | ⟨q, e⟩
      · cases q
      · cases q
      · rw [hst] at hK
        exact fgo_s G hk hS hF hL (fKR_p (fKR_d2 hK)) e
      · cases q
      · cases q
      · cases q
    | _ + 4, hk, e => exact nomatch (show false = true from hk)
  | ireturn =>
    dsimp only [zins] at e
    split at e
    · split at e
      · rename_i hq
        obtain ⟨e1, e2⟩ := inl_jj e
        subst e1 e2
        exact ⟨⟨_, rfl, fun w => (by unfold frk at w; rw [hq] at w; cases w), fun _ => ⟨_, rfl⟩⟩, hS, fHd_s hk hF⟩
      · rename_i hq
        obtain ⟨e1, e2⟩ := inl_jj (zc01_inv e).2
        subst e1 e2
        exact ⟨⟨_, rfl, fun w => (by unfold frk at w; rw [hq] at w; cases w), fun _ => ⟨_, rfl⟩⟩, hS, fHd_s hk hF⟩
      · cases e
    · cases e
  | return_ =>
    dsimp only [zins] at e
    split at e
    · split at e
      · rename_i hq
        obtain ⟨e1, e2⟩ := inl_jj e
        subst e1 e2
        exact ⟨⟨_, rfl, fun _ => rfl, fun w => absurd (by unfold frk; rw [hq]) w⟩, hS, fHd_s hk hF⟩
      · cases e
    · cases e
  | _ =>
    exact nomatch (show false = true from hk)
/-- every place of a context is checked -/
def fOKc (F : List fC) (c : fC) : Bool := c.2.2.2.all fun q => match zfetch c.1 q.1 with
  | some (ins, ln, (a1, a2, _), _, _) => fck F (finst c.1) c.2.2.1 c.2.2.2 q.2.1 q.2.2 q.1 ln a1 a2 ins
  | none => false
def fE0c (c : fC) : Bool := match flk c.2.2.2 0 with
  | some (φ, ak) => Nat.beq φ c.2.1 && ak.isEmpty
  | none => false
set_option maxRecDepth 100000 in
theorem fE0_s {F : List fC} (h : F.all fE0c = true) : ∀ c, c ∈ F → flk c.2.2.2 0 = some (c.2.1, []) := by
  intro c hc
  have h1 := List.all_eq_true.mp h c hc
  unfold fE0c at h1
  split at h1
  · rename_i φ ak hl
    rw [Bool.and_eq_true] at h1
    rw [hl, abq h1.1, List.isEmpty_iff.mp h1.2]
  · cases h1
set_option maxRecDepth 100000 in
theorem flow {E : zE} {S : List zS} {p : Nat → Int32} {F : List fC} (hS84 : zat S 84 = some (.inr (.inl (12, sl85)))) (hKP : fKP E S) (h0 : F.all fE0c = true) (h1 : ∀ c, c ∈ F → fOKc F c = true) : ∀ n, fAll E S p F n
  | 0 => fun c hc pc φ ak _ d ls st h r h' _ _ _ _ e => by rw [zex_zero] at e; cases e
  | n + 1 => by
    intro c hc pc φ ak hl d ls st h r h' hS hF hL hK e
    rw [zex_succ] at e
    unfold zbody at e
    have h2 := List.all_eq_true.mp (h1 c hc) _ (flk_m hl)
    split at e
    · cases e
    · rename_i ins ln a1 a2 a3 z w hf
      dsimp only at h2
      rw [hf] at h2
      exact fins hS84 hKP (fE0_s h0) (flow hS84 hKP h0 h1 n) (flow hS84 hKP h0 h1 n c hc) hS hF hL hK h2 e
