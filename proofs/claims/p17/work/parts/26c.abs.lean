noncomputable def a_div (g : Int32 → Int32 → Int32) (k : aSt → Bool) (env : aEn) (st : aSt) : Bool := match st with
  | .inl y :: .inl x :: r => ares env y fun y => cond (Nat.blt y 4294967296 && !(Nat.beq y 2147483648)) (ares env x fun x => cond (Nat.blt x 4294967296) (afo (aze (g (azb x) (azb y))) fun c => k (.inl c :: r)) (k (.inl 1152921504606846976 :: r))) false
  | _ => false
noncomputable def a_i2l (k : aSt → Bool) (env : aEn) (st : aSt) : Bool := match st with
  | .inl x :: r => ares env x fun x => cond (Nat.blt x 4294967296) (k (.inr (.long (azb x).toInt64) :: r)) false
  | _ => false
noncomputable def a_lcmp (k : aSt → Bool) (st : aSt) : Bool := match st with
  | .inr (.long y) :: .inr (.long x) :: r => afo (aze (lg_cmp x y)) fun c => k (.inl c :: r)
  | _ => false
noncomputable def a_i2b (k : aSt → Bool) (env : aEn) (st : aSt) : Bool := match st with
  | .inl x :: r => a_by env x fun c => k (.inl c :: r)
  | _ => false
noncomputable def a_dup (k : aSt → Bool) (st : aSt) : Bool := match st with
  | v :: r => cond (ac1 v) (k (v :: v :: r)) false
  | _ => false
noncomputable def a_dup2 (k : aSt → Bool) (st : aSt) : Bool := match st with
  | v :: u :: r => cond (ac1 v && ac1 u) (k (v :: u :: v :: u :: r)) false
  | _ => false
noncomputable def a_popv (k : aSt → Bool) (st : aSt) : Bool := match st with
  | v :: r => cond (ac1 v) (k r) false
  | _ => false
noncomputable def a_tsw (k : aEn → Nat → aSt → Bool) (env : aEn) (a1 : Nat) (st : aSt) : Bool := match st with
  | .inl x :: r => (match zat zsws a1 with
    | some (l, t) => ares env x fun x => a_sw (fun env p => k env p r) x t l env
    | none => false)
  | _ => false
noncomputable def a_new (ih : aF) (k : aSt → aHp → Bool) (env : aEn) (fs : List aFm) (h : aHp) (a1 a2 : Nat) (st : aSt) : Bool := match a1 with
  | 0 => (match zat zcsh a2 with
    | some sl => apsh h (.inr (.inl (a2, sl))) sl.length fun m h' => k (.inr (.ref m) :: st) h'
    | none => false)
  | _ + 1 => cond (Nat.ble (asu st) 8) (match h.2 with
    | some (m, J, c, q) => afo (c + 1) fun c => afo (q + 6) fun q => (match h with
      | (cs, _) => a_thr ih env a2 (cs, some (m, J, c, q)) fs)
    | none => false) false
noncomputable def a_pri (k : aEn → aSt → aHp → Bool) (env : aEn) (kind : Nat) (st : aSt) (h : aHp) : Bool := match kind with
  | 1 => (match st with
    | .inr (.ref _) :: r => cond (Nat.ble (asu r) 8) (k env r h) false
    | _ => false)
  | 2 => (match st with
    | .inl y :: .inl x :: r => cond (Nat.ble (asu r) 8) (ares env x fun x => ares env y fun y => alt env y x (fun env => k env (.inl y :: r) h) (fun env => k env (.inl x :: r) h)) false
    | _ => false)
  | 3 => (match st with
    | .inl y :: .inl x :: r => cond (Nat.ble (asu r) 8) (ares env x fun x => ares env y fun y => alt env x y (fun env => k env (.inl y :: r) h) (fun env => k env (.inl x :: r) h)) false
    | _ => false)
  | 6 => a_copy (fun st h => k env st h) env h st
  | _ => false
noncomputable def a_ire (ih : aF) (fin : aEn → Option aV → aHp → Bool) (env : aEn) (fs : List aFm) (mi : Nat) (st : aSt) (h : aHp) : Bool := match st with
  | [.inl c] => (match zat zmi mi with
    | some (_, _, _, _, 1, _) => a_ret ih fin env fs (some (.inl c)) h
    | some (_, _, _, _, 2, _) => ares env c fun c => cond (Nat.beq c 2147483648 || Nat.beq c 2147483649) (a_ret ih fin env fs (some (.inl c)) h) false
    | _ => false)
  | _ => false
noncomputable def a_rtv (ih : aF) (fin : aEn → Option aV → aHp → Bool) (env : aEn) (fs : List aFm) (mi : Nat) (st : aSt) (h : aHp) : Bool := match st with
  | [] => (match zat zmi mi with
    | some (_, _, _, _, 0, _) => a_ret ih fin env fs none h
    | _ => false)
  | _ => false
section ASEM
variable (E : zE) (V : Nat → Int32) (G : zH) (B : Nat) (Q : Option zR → Prop)
abbrev cFm : Type := Nat × Nat × Nat × Nat × zLs × List Value × Bool × Nat × Nat
def zsem : List cFm → Option zR → Prop
  | [], o => Q o
  | (d, mi, pc, nx, ls, r, tx, kd, n) :: fs, o => zsem fs (zcall o (fun v h1 => zex E (B + n) d mi nx ls (v.toList ++ r) h1)
      (fun x h1 => cond (tx && Nat.beq kd 0) (match zat zhs mi with
        | some (e :: l) => (match zhand (e :: l) pc x with
          | some t => zex E (B + n) d mi t ls [.double 0] h1
          | none => none)
        | _ => some (.inr x, h1)) none))
def aFR : List aFm → List cFm → Prop
  | [], [] => True
  | (d, mi, pc, nx, al, ar, tx, kd, n) :: a, (d', mi', pc', nx', ls, r, tx', kd', n') :: c => d' = d ∧ mi' = mi ∧ pc' = pc ∧ nx' = nx ∧ tx' = tx ∧ kd' = kd ∧ n' = n ∧ aLR V al ls ∧ aSR V ar r ∧ aFR a c
  | [], _ :: _ => False
  | _ :: _, [] => False
def aIH (ih : aF) : Prop := ∀ n env afs d mi pc als a ah, ih n env afs d mi pc als a ah = true → ∀ cfs ls s h, aenv V env → aFR V afs cfs → aLR V als ls → aSR V a s → aHR V G ah h → zsem E B Q cfs (zex E (B + n) d mi pc ls s h)
def aoV (v : Option aV) (w : Option Value) : Prop := match v, w with
  | none, none => True
  | some v, some w => aVR V v w
  | none, some _ => False
  | some _, none => False
def aFin (fin : aEn → Option aV → aHp → Bool) : Prop := ∀ env v w ah h, aenv V env → aoV V v w → aHR V G ah h → fin env v ah = true → Q (some (.inl w, h))
abbrev aSM : Type := Nat → Nat → Nat → aEn → aSt → aHp → (Option aV → aHp → Bool) → Bool
def aSm (sm : aSM) : Prop := ∀ (j n d : Nat) (env : aEn) (as : aSt) (ah : aHp) (k : Option aV → aHp → Bool) {q : Nat × Nat × Nat × Nat × Nat × Nat}, zat zmi j = some q → ∀ ss h, aenv V env → aSR V as ss → aHR V G ah h → sm j n d env as ah k = true →
  ∃ v w ah' h', zex E (B + n) d j 0 (zent q.2.1 ss) [] h = some (.inl w, h') ∧ aoV V v w ∧ aHR V G ah' h' ∧ k v ah' = true
set_option maxRecDepth 100000 in
theorem aoV_i {V : Nat → Int32} {c : Nat} {x : Int32} (h : arel V c x) : aoV V (some (.inl c)) (some (.int x)) := ⟨x, rfl, h⟩
end ASEM
section ASEM2
variable {E : zE} {V : Nat → Int32} {G : zH} {B : Nat} {Q : Option zR → Prop} {ih : aF} {sj : Nat → Bool} {sm : aSM} {fin : aEn → Option aV → aHp → Bool} {env : aEn} {afs : List aFm} {cfs : List cFm} {ah : aHp} {h : zH}
set_option maxRecDepth 100000 in
theorem a_ret_s (IH : aIH E V G B Q ih) (hfin : aFin V G Q fin) (he : aenv V env) (hf : aFR V afs cfs) (hh : aHR V G ah h) {v : Option aV} {w : Option Value} (hv : aoV V v w) (e : a_ret ih fin env afs v ah = true) : zsem E B Q cfs (some (.inl w, h)) := by
  cases afs with
  | nil =>
    cases cfs with
    | cons c cs => exact hf.elim
    | nil => exact hfin _ _ _ _ _ he hv hh e
  | cons f fs =>
    cases cfs with
    | nil => exact hf.elim
    | cons c cs =>
      obtain ⟨d, mi, pc, nx, al, ar, tx, kd, n⟩ := f
      obtain ⟨d', mi', pc', nx', ls, r, tx', kd', n'⟩ := c
      obtain ⟨rfl, rfl, rfl, rfl, rfl, rfl, rfl, hl, hr, hf2⟩ := hf
      unfold a_ret at e
      cases v with
      | none =>
        cases w with
        | some w => exact hv.elim
        | none => exact IH _ _ _ _ _ _ _ _ _ e _ _ _ _ he hf2 hl hr hh
      | some v =>
        cases w with
        | none => exact hv.elim
        | some w => exact IH _ _ _ _ _ _ _ _ _ e _ _ (w :: r) _ he hf2 hl (aSR_cv hv hr) hh
set_option maxRecDepth 100000 in
theorem a_thr_s (IH : aIH E V G B Q ih) (he : aenv V env) (hh : aHR V G ah h) {x : Nat} : ∀ {afs : List aFm} {cfs : List cFm}, aFR V afs cfs → a_thr ih env x ah afs = true → zsem E B Q cfs (some (.inr x, h))
  | [], _, _, e => nomatch e
  | _ :: _, [], hf, _ => hf.elim
  | (d, mi, pc, nx, al, ar, tx, kd, n) :: fs, (d', mi', pc', nx', ls, r, tx', kd', n') :: cs, hf, e => by
    obtain ⟨rfl, rfl, rfl, rfl, rfl, rfl, rfl, hl, hr, hf2⟩ := hf
    have e : (cond (tx' && Nat.beq kd' 0) (match zat zhs mi' with
      | some (e :: l) => (match zhand (e :: l) pc' x with
        | some t => afo t fun t => ih n' env fs d' mi' t al [.inr (.double 0)] ah
        | none => false)
      | _ => a_thr ih env x ah fs) false) = true := e
    obtain ⟨h1, e⟩ := acnd e
    show zsem E B Q cs (cond (tx' && Nat.beq kd' 0) (match zat zhs mi' with
        | some (e :: l) => (match zhand (e :: l) pc' x with
          | some t => zex E (B + n') d' mi' t ls [.double 0] h
          | none => none)
        | _ => some (.inr x, h)) none)
    rw [h1, cond_true]
    split at e
    · split at e
      · rw [afo_eq] at e
        exact IH _ _ _ _ _ _ _ _ _ e _ _ [.double 0] _ he hf2 hl (aSR_co (show aSR V [] [] from trivial)) hh
      · cases e
    · exact a_thr_s IH he hh hf2 e
set_option maxRecDepth 100000 in
theorem a_inv_s (IH : aIH E V G B Q ih) (hsm : aSm E V G B sm) (he : aenv V env) (hf : aFR V afs cfs) (hh : aHR V G ah h) {n d mi pc nx j : Nat} {tx : Bool} {als : aLs} {ls : zLs} {a : aSt} {s : List Value} (hl : aLR V als ls) (hs : aSR V a s) (e : a_inv sj sm ih n env afs d mi pc nx j tx als a ah = true) : zsem E B Q cfs (zinv (zex E (B + n)) (zex E (B + n) d mi nx) d mi pc j tx ls s h) := by
  unfold a_inv at e
  unfold zinv
  split at e
  · cases e
  · rename_i na mL stc ci rk kd hz
    rw [hz]
    simp only
    obtain ⟨as, ar, ss, sr, h1, h2, h3, e⟩ := apop_s hs (show aSR V [] [] from trivial) e
    rw [h1]
    simp only
    obtain ⟨h4, e⟩ := acnd e
    rw [← asu_s h3, ← aal_s h2] at h4
    rw [h4, cond_true]
    obtain ⟨e, h5⟩ := a_recv_s hh h2 e
    rw [h5]
    cases d with
    | zero => cases e
    | succ d =>
      simp only at e
      cases h7 : sj j with
      | false =>
        rw [h7, cond_false] at e
        obtain ⟨l, h6, e⟩ := aent_s h2 e
        exact IH _ _ _ _ _ _ _ _ _ e ((d + 1, mi, pc, nx, ls, sr, tx, kd, n) :: cfs) _ _ _ he ⟨rfl, rfl, rfl, rfl, rfl, rfl, rfl, hl, h3, hf⟩ h6 trivial hh
      | true =>
        rw [h7, cond_true] at e
        obtain ⟨v, w, ah', h', h8, h9, h10, e⟩ := hsm _ _ _ _ _ _ _ hz _ _ he h2 hh e
        simp only
        rw [h8]
        cases v with
        | none =>
          cases w with
          | some w => exact h9.elim
          | none => exact IH _ _ _ _ _ _ _ _ _ e _ _ _ _ he hf hl h3 h10
        | some v =>
          cases w with
          | none => exact h9.elim
          | some w => exact IH _ _ _ _ _ _ _ _ _ e _ _ (w :: sr) _ he hf hl (aSR_cv h9 h3) h10
set_option maxRecDepth 100000 in
theorem a_new_s (IH : aIH E V G B Q ih) (he : aenv V env) (hf : aFR V afs cfs) (hh : aHR V G ah h) {k : aSt → aHp → Bool} {K : List Value → zH → Option zR} {a1 a2 : Nat} {a : aSt} {s : List Value} (hs : aSR V a s) (hk : ∀ a s ah h, aHR V G ah h → aSR V a s → k a ah = true → zsem E B Q cfs (K s h)) (e : a_new ih k env afs ah a1 a2 a = true) : zsem E B Q cfs (match (generalizing := false) a1 with
      | 0 => (match zat zcsh a2 with
        | some sl => K (.ref h.1.length :: s) (zpush h (.inr (.inl (a2, sl))) sl.length)
        | none => none)
      | _ => cond (Nat.ble (zsum s) 8) (some (.inr a2, (h.1, h.2.1, h.2.2.1, h.2.2.2.1 + 1, h.2.2.2.2 + 6))) none) := by
  unfold a_new at e
  cases a1 with
  | zero =>
    simp only at e ⊢
    split at e
    · rename_i sl hz
      obtain ⟨ah', h1, e⟩ := apsh_s hh (by intro z; cases z) e
      exact hk _ _ _ _ h1 (aSR_co hs) e
    · cases e
  | succ a1 =>
    simp only at e ⊢
    obtain ⟨h1, e⟩ := acnd e
    rw [asu_s hs, h1, cond_true]
    split at e
    · rename_i m J c q hq
      have h9 := hh.2.2
      rw [hq] at h9
      rw [afo_eq, afo_eq] at e
      obtain ⟨ah1, ah2⟩ := ah
      refine a_thr_s IH he ?_ hf e
      exact ⟨hh.1, hh.2.1, h9.1, h9.2.1, by rw [← h9.2.2.1], by rw [← h9.2.2.2]⟩
    · cases e
set_option maxRecDepth 100000 in
theorem a_ire_s (IH : aIH E V G B Q ih) (hfin : aFin V G Q fin) (he : aenv V env) (hf : aFR V afs cfs) (hh : aHR V G ah h) {mi : Nat} {a : aSt} {s : List Value} (hs : aSR V a s) (e : a_ire ih fin env afs mi a ah = true) : zsem E B Q cfs (match (generalizing := false) s with
    | [.int x] => (match zat zmi mi with
      | some (_, _, _, _, 1, _) => some (.inl (some (.int x)), h)
      | some (_, _, _, _, 2, _) => zc01 x (some (.inl (some (.int x)), h))
      | _ => none)
    | _ => none) := by
  unfold a_ire at e
  split at e
  · obtain ⟨x, r, h1, h2, h3⟩ := aSR_i hs
    cases (aSR_n h3)
    subst h1
    simp only
    split at e
    · exact a_ret_s IH hfin he hf hh (aoV_i h2) e
    · obtain ⟨c, h4, e⟩ := ares_s he h2 e
      obtain ⟨h5, e⟩ := acnd e
      have h6 : ∀ R, zc01 x R = R := by
        intro R
        rw [Bool.or_eq_true] at h5
        unfold zc01
        rcases h5 with h5 | h5
        · have h6 := abq h5
          subst h6
          rw [if_pos (arel_eq h4 (by decide) (arel0 V))]
        · have h6 := abq h5
          subst h6
          have h7 : x = 1 := arel_eq h4 (by decide) (arel_of (by decide))
          subst h7
          rfl
      rw [h6]
      exact a_ret_s IH hfin he hf hh (aoV_i h4) e
    · cases e
  · cases e
set_option maxRecDepth 100000 in
theorem a_rtv_s (IH : aIH E V G B Q ih) (hfin : aFin V G Q fin) (he : aenv V env) (hf : aFR V afs cfs) (hh : aHR V G ah h) {mi : Nat} {a : aSt} {s : List Value} (hs : aSR V a s) (e : a_rtv ih fin env afs mi a ah = true) : zsem E B Q cfs (match (generalizing := false) s with
    | [] => (match zat zmi mi with
      | some (_, _, _, _, 0, _) => some (.inl none, h)
      | _ => none)
    | _ => none) := by
  unfold a_rtv at e
  split at e
  · cases (aSR_n hs)
    simp only
    split at e
    · exact a_ret_s IH hfin he hf hh (show aoV V none none from trivial) e
    · cases e
  · cases e
set_option maxRecDepth 100000 in
theorem a_pri_s {n d mi nx : Nat} {kind : Nat} {k : aEn → aSt → aHp → Bool} {K : zLs → List Value → zH → Option zR} {ls : zLs} {a : aSt} {s : List Value} {P : Option zR → Prop} (he : aenv V env) (hh : aHR V G ah h) (hs : aSR V a s) (hk : ∀ env a s ah h, aenv V env → aHR V G ah h → aSR V a s → k env a ah = true → P (K ls s h)) (e : a_pri k env kind a ah = true) : P (zpri K kind ls s h) := by
  unfold a_pri at e
  split at e
  · split at e
    · obtain ⟨r, h1, h3⟩ := aSR_o hs
      subst h1
      obtain ⟨h4, e⟩ := acnd e
      rw [← asu_s h3] at h4
      unfold zpri
      simp only
      rw [h4]
      exact hk _ _ _ _ _ he hh h3 e
    · cases e
  · split at e
    · obtain ⟨y, r, h1, h2, h3⟩ := aSR_i hs
      subst h1
      obtain ⟨x, r, h1, h4, h5⟩ := aSR_i h3
      subst h1
      obtain ⟨h6, e⟩ := acnd e
      rw [← asu_s h5] at h6
      obtain ⟨cx, h7, e⟩ := ares_s he h4 e
      obtain ⟨cy, h8, e⟩ := ares_s he h2 e
      have q := alt_s he h8 h7 e
      unfold zpri
      simp only
      rw [h6, cond_true]
      by_cases hc : y < x
      · rw [if_pos hc]
        obtain ⟨env', he', e'⟩ := q.1 hc
        exact hk _ _ _ _ _ he' hh (aSR_ci (h8) h5) e'
      · rw [if_neg hc]
        obtain ⟨env', he', e'⟩ := q.2 hc
        exact hk _ _ _ _ _ he' hh (aSR_ci (h7) h5) e'
    · cases e
  · split at e
    · obtain ⟨y, r, h1, h2, h3⟩ := aSR_i hs
      subst h1
      obtain ⟨x, r, h1, h4, h5⟩ := aSR_i h3
      subst h1
      obtain ⟨h6, e⟩ := acnd e
      rw [← asu_s h5] at h6
      obtain ⟨cx, h7, e⟩ := ares_s he h4 e
      obtain ⟨cy, h8, e⟩ := ares_s he h2 e
      have q := alt_s he h7 h8 e
      unfold zpri
      simp only
      rw [h6, cond_true]
      by_cases hc : x < y
      · rw [if_pos hc]
        obtain ⟨env', he', e'⟩ := q.1 hc
        exact hk _ _ _ _ _ he' hh (aSR_ci (h8) h5) e'
      · rw [if_neg hc]
        obtain ⟨env', he', e'⟩ := q.2 hc
        exact hk _ _ _ _ _ he' hh (aSR_ci (h7) h5) e'
    · cases e
  · exact a_copy_s (K := fun s h => K ls s h) he hh hs (fun a s ah h h1 h2 e => hk _ _ _ _ _ he h1 h2 e) e
  · cases e
end ASEM2
def acode : Instr → Nat × Nat × ClassFile.Cond
  | .aload i => (1, i, .eq)
  | .aload_n i => (1, i.val, .eq)
  | .iload i => (2, i, .eq)
  | .iload_n i => (2, i.val, .eq)
  | .getfield _ => (3, 0, .eq)
  | .if_icmp c _ => (4, 0, c)
  | .istore i => (5, i, .eq)
  | .istore_n i => (5, i.val, .eq)
  | .iinc i _ => (6, i, .eq)
  | .goto _ => (7, 0, .eq)
  | .iaload => (8, 0, .eq)
  | .iconst _ => (9, 0, .eq)
  | .bipush _ => (9, 0, .eq)
  | .sipush _ => (9, 0, .eq)
  | .iastore => (10, 0, .eq)
  | .putfield _ => (11, 0, .eq)
  | .ireturn => (12, 0, .eq)
  | .invokevirtual _ => (13, 0, .eq)
  | .new _ => (14, 0, .eq)
  | .dup => (15, 0, .eq)
  | .newarray _ => (16, 0, .eq)
  | .anewarray _ => (16, 0, .eq)
  | .iadd => (17, 0, .eq)
  | .return_ => (18, 0, .eq)
  | .invokespecial _ => (19, 0, .eq)
  | .invokestatic _ => (20, 0, .eq)
  | .aconst_null => (21, 0, .eq)
  | .ifCond c _ => (22, 0, c)
  | .pop => (23, 0, .eq)
  | .dup2 => (24, 0, .eq)
  | .isub => (25, 0, .eq)
  | .astore i => (26, i, .eq)
  | .astore_n i => (26, i.val, .eq)
  | .arraylength => (27, 0, .eq)
  | .iand => (28, 0, .eq)
  | .tableswitch .. => (29, 0, .eq)
  | .i2l => (30, 0, .eq)
  | .laload => (31, 0, .eq)
  | .lcmp => (32, 0, .eq)
  | .lastore => (33, 0, .eq)
  | .imul => (34, 0, .eq)
  | .idiv => (35, 0, .eq)
  | .irem => (36, 0, .eq)
  | .ishl => (37, 0, .eq)
  | .ishr => (38, 0, .eq)
  | .iushr => (39, 0, .eq)
  | .ixor => (40, 0, .eq)
  | .ior => (41, 0, .eq)
  | .i2b => (42, 0, .eq)
  | .bastore => (43, 0, .eq)
  | .baload => (44, 0, .eq)
  | .aaload => (45, 0, .eq)
  | .aastore => (46, 0, .eq)
  | .ifnull _ => (47, 0, .eq)
  | .ifnonnull _ => (48, 0, .eq)
  | .ldc _ => (49, 0, .eq)
  | .ldc_w _ => (50, 0, .eq)
  | _ => (0, 0, .eq)
abbrev aOP : Type := Nat → (Nat → Bool) → aSM → (aEn → Option aV → aHp → Bool) → aF → Nat → aEn → List aFm → Nat → Nat → Nat → Nat → aLs → aSt → aHp → Nat → Nat → Nat → Int32 → Nat → ClassFile.Cond → Bool
noncomputable def al1 : aOP := fun N sj sm fin ih n env fs d mi pc nx ls st h a1 a2 a3 z im c => a_ldA (fun s => ih n env fs d mi nx ls s h) ls im st
noncomputable def al2 : aOP := fun N sj sm fin ih n env fs d mi pc nx ls st h a1 a2 a3 z im c => a_ldI (fun s => ih n env fs d mi nx ls s h) ls im st
noncomputable def al3 : aOP := fun N sj sm fin ih n env fs d mi pc nx ls st h a1 a2 a3 z im c => a_get (fun s => ih n env fs d mi nx ls s h) h a1 a2 st
noncomputable def al4 : aOP := fun N sj sm fin ih n env fs d mi pc nx ls st h a1 a2 a3 z im c => a_if2 (fun env p s => afo p fun p => ih n env fs d mi p ls s h) env c a1 nx st
noncomputable def al5 : aOP := fun N sj sm fin ih n env fs d mi pc nx ls st h a1 a2 a3 z im c => a_stI (fun l s => ih n env fs d mi nx l s h) ls im st
noncomputable def al6 : aOP := fun N sj sm fin ih n env fs d mi pc nx ls st h a1 a2 a3 z im c => a_inc (fun l => ih n env fs d mi nx l st h) env ls im z
noncomputable def al7 : aOP := fun N sj sm fin ih n env fs d mi pc nx ls st h a1 a2 a3 z im c => afo a1 fun p => ih n env fs d mi p ls st h
noncomputable def al8 : aOP := fun N sj sm fin ih n env fs d mi pc nx ls st h a1 a2 a3 z im c => a_ald N (fun s => ih n env fs d mi nx ls s h) env h st
noncomputable def al9 : aOP := fun N sj sm fin ih n env fs d mi pc nx ls st h a1 a2 a3 z im c => afo (aze z) fun c => ih n env fs d mi nx ls (.inl c :: st) h
noncomputable def al10 : aOP := fun N sj sm fin ih n env fs d mi pc nx ls st h a1 a2 a3 z im c => a_ast (fun s h => ih n env fs d mi nx ls s h) env h st
noncomputable def al11 : aOP := fun N sj sm fin ih n env fs d mi pc nx ls st h a1 a2 a3 z im c => a_put (fun s h => ih n env fs d mi nx ls s h) env h a1 a2 z st
noncomputable def al12 : aOP := fun N sj sm fin ih n env fs d mi pc nx ls st h a1 a2 a3 z im c => a_ire ih fin env fs mi st h
noncomputable def al13 : aOP := fun N sj sm fin ih n env fs d mi pc nx ls st h a1 a2 a3 z im c => (match a1 with
    | 0 => a_inv sj sm ih n env fs d mi pc nx a2 (Nat.beq a3 0) ls st h
    | k + 1 => a_pri (fun env s h => ih n env fs d mi nx ls s h) env (k + 1) st h)
noncomputable def al14 : aOP := fun N sj sm fin ih n env fs d mi pc nx ls st h a1 a2 a3 z im c => a_new ih (fun s h => ih n env fs d mi nx ls s h) env fs h a1 a2 st
noncomputable def al15 : aOP := fun N sj sm fin ih n env fs d mi pc nx ls st h a1 a2 a3 z im c => a_dup (fun s => ih n env fs d mi nx ls s h) st
noncomputable def al16 : aOP := fun N sj sm fin ih n env fs d mi pc nx ls st h a1 a2 a3 z im c => a_newa (fun s h => ih n env fs d mi nx ls s h) env h a1 st
noncomputable def al17 : aOP := fun N sj sm fin ih n env fs d mi pc nx ls st h a1 a2 a3 z im c => a_b2 (fun s => ih n env fs d mi nx ls s h) env (fun a b => (a + b + 2147483648) % 4294967296) st
noncomputable def al18 : aOP := fun N sj sm fin ih n env fs d mi pc nx ls st h a1 a2 a3 z im c => a_rtv ih fin env fs mi st h
noncomputable def al19 : aOP := fun N sj sm fin ih n env fs d mi pc nx ls st h a1 a2 a3 z im c => (match a1 with
    | 0 => a_inv sj sm ih n env fs d mi pc nx a2 false ls st h
    | k + 1 => a_pri (fun env s h => ih n env fs d mi nx ls s h) env (k + 1) st h)
noncomputable def al20 : aOP := fun N sj sm fin ih n env fs d mi pc nx ls st h a1 a2 a3 z im c => (match a1 with
    | 0 => a_inv sj sm ih n env fs d mi pc nx a2 (Nat.beq a3 0) ls st h
    | k + 1 => a_pri (fun env s h => ih n env fs d mi nx ls s h) env (k + 1) st h)
noncomputable def al21 : aOP := fun N sj sm fin ih n env fs d mi pc nx ls st h a1 a2 a3 z im c => ih n env fs d mi nx ls (.inr .null :: st) h
noncomputable def al22 : aOP := fun N sj sm fin ih n env fs d mi pc nx ls st h a1 a2 a3 z im c => a_if1 (fun env p s => afo p fun p => ih n env fs d mi p ls s h) env c a1 nx st
noncomputable def al23 : aOP := fun N sj sm fin ih n env fs d mi pc nx ls st h a1 a2 a3 z im c => a_popv (fun s => ih n env fs d mi nx ls s h) st
noncomputable def al24 : aOP := fun N sj sm fin ih n env fs d mi pc nx ls st h a1 a2 a3 z im c => a_dup2 (fun s => ih n env fs d mi nx ls s h) st
noncomputable def al25 : aOP := fun N sj sm fin ih n env fs d mi pc nx ls st h a1 a2 a3 z im c => a_b2 (fun s => ih n env fs d mi nx ls s h) env (fun a b => (a + 6442450944 - b) % 4294967296) st
noncomputable def al26 : aOP := fun N sj sm fin ih n env fs d mi pc nx ls st h a1 a2 a3 z im c => a_stA (fun l s => ih n env fs d mi nx l s h) ls im st
noncomputable def al27 : aOP := fun N sj sm fin ih n env fs d mi pc nx ls st h a1 a2 a3 z im c => a_len N (fun s => ih n env fs d mi nx ls s h) h st
noncomputable def al28 : aOP := fun N sj sm fin ih n env fs d mi pc nx ls st h a1 a2 a3 z im c => a_and (fun s => ih n env fs d mi nx ls s h) env st
noncomputable def al29 : aOP := fun N sj sm fin ih n env fs d mi pc nx ls st h a1 a2 a3 z im c => a_tsw (fun env p s => afo p fun p => ih n env fs d mi p ls s h) env a1 st
noncomputable def al30 : aOP := fun N sj sm fin ih n env fs d mi pc nx ls st h a1 a2 a3 z im c => a_i2l (fun s => ih n env fs d mi nx ls s h) env st
noncomputable def al31 : aOP := fun N sj sm fin ih n env fs d mi pc nx ls st h a1 a2 a3 z im c => a_aldJ (fun s => ih n env fs d mi nx ls s h) env h st
noncomputable def al32 : aOP := fun N sj sm fin ih n env fs d mi pc nx ls st h a1 a2 a3 z im c => a_lcmp (fun s => ih n env fs d mi nx ls s h) st
noncomputable def al33 : aOP := fun N sj sm fin ih n env fs d mi pc nx ls st h a1 a2 a3 z im c => a_astJ (fun s h => ih n env fs d mi nx ls s h) env h st
noncomputable def al34 : aOP := fun N sj sm fin ih n env fs d mi pc nx ls st h a1 a2 a3 z im c => a_b2 (fun s => ih n env fs d mi nx ls s h) env (fun a b => aze (azb a * azb b)) st
noncomputable def al35 : aOP := fun N sj sm fin ih n env fs d mi pc nx ls st h a1 a2 a3 z im c => a_div (fun x y => x / y) (fun s => ih n env fs d mi nx ls s h) env st
noncomputable def al36 : aOP := fun N sj sm fin ih n env fs d mi pc nx ls st h a1 a2 a3 z im c => a_div (fun x y => x - x / y * y) (fun s => ih n env fs d mi nx ls s h) env st
noncomputable def al37 : aOP := fun N sj sm fin ih n env fs d mi pc nx ls st h a1 a2 a3 z im c => a_b2 (fun s => ih n env fs d mi nx ls s h) env (fun a b => aze (azb a <<< (azb b &&& 31))) st
noncomputable def al38 : aOP := fun N sj sm fin ih n env fs d mi pc nx ls st h a1 a2 a3 z im c => a_b2 (fun s => ih n env fs d mi nx ls s h) env (fun a b => aze (azb a >>> (azb b &&& 31))) st
noncomputable def al39 : aOP := fun N sj sm fin ih n env fs d mi pc nx ls st h a1 a2 a3 z im c => a_b2 (fun s => ih n env fs d mi nx ls s h) env (fun a b => aze (((azb a).toUInt32 >>> ((azb b).toUInt32 &&& Int32.toUInt32 31)).toInt32)) st
noncomputable def al40 : aOP := fun N sj sm fin ih n env fs d mi pc nx ls st h a1 a2 a3 z im c => a_b2 (fun s => ih n env fs d mi nx ls s h) env (fun a b => aze (azb a ^^^ azb b)) st
noncomputable def al41 : aOP := fun N sj sm fin ih n env fs d mi pc nx ls st h a1 a2 a3 z im c => a_b2 (fun s => ih n env fs d mi nx ls s h) env (fun a b => aze (azb a ||| azb b)) st
noncomputable def al42 : aOP := fun N sj sm fin ih n env fs d mi pc nx ls st h a1 a2 a3 z im c => a_i2b (fun s => ih n env fs d mi nx ls s h) env st
noncomputable def al43 : aOP := fun N sj sm fin ih n env fs d mi pc nx ls st h a1 a2 a3 z im c => a_astB (fun s h => ih n env fs d mi nx ls s h) env h st
noncomputable def al44 : aOP := fun N sj sm fin ih n env fs d mi pc nx ls st h a1 a2 a3 z im c => a_aldB (fun s => ih n env fs d mi nx ls s h) env h st
noncomputable def al45 : aOP := fun N sj sm fin ih n env fs d mi pc nx ls st h a1 a2 a3 z im c => a_aldA (fun s => ih n env fs d mi nx ls s h) env h st
noncomputable def al46 : aOP := fun N sj sm fin ih n env fs d mi pc nx ls st h a1 a2 a3 z im c => a_astA (fun s h => ih n env fs d mi nx ls s h) env h st
noncomputable def al47 : aOP := fun N sj sm fin ih n env fs d mi pc nx ls st h a1 a2 a3 z im c => a_nul (fun p s => afo p fun p => ih n env fs d mi p ls s h) a1 nx st
noncomputable def al48 : aOP := fun N sj sm fin ih n env fs d mi pc nx ls st h a1 a2 a3 z im c => a_nul (fun p s => afo p fun p => ih n env fs d mi p ls s h) nx a1 st
noncomputable def al49 : aOP := fun N sj sm fin ih n env fs d mi pc nx ls st h a1 a2 a3 z im c => (match a1 with
    | 0 => afo (aze z) fun c => ih n env fs d mi nx ls (.inl c :: st) h
    | 1 => ih n env fs d mi nx ls (.inr (.retAddr a2) :: st) h
    | _ => false)
noncomputable def al50 : aOP := fun N sj sm fin ih n env fs d mi pc nx ls st h a1 a2 a3 z im c => (match a1 with
    | 0 => afo (aze z) fun c => ih n env fs d mi nx ls (.inl c :: st) h
    | _ => false)
noncomputable def al0 : aOP := fun N sj sm fin ih n env fs d mi pc nx ls st h a1 a2 a3 z im c => false
noncomputable def a_step (op : Nat) : aOP := cond (Nat.blt op 4) (cond (Nat.blt op 2) (cond (Nat.blt op 1) (al0) (al1)) (cond (Nat.blt op 3) (al2) (al3))) (cond (Nat.blt op 8) (cond (Nat.blt op 6) (cond (Nat.blt op 5) (al4) (al5)) (cond (Nat.blt op 7) (al6) (al7))) (cond (Nat.blt op 12) (cond (Nat.blt op 10) (cond (Nat.blt op 9) (al8) (al9)) (cond (Nat.blt op 11) (al10) (al11))) (cond (Nat.blt op 16) (cond (Nat.blt op 14) (cond (Nat.blt op 13) (al12) (al13)) (cond (Nat.blt op 15) (al14) (al15))) (cond (Nat.blt op 20) (cond (Nat.blt op 18) (cond (Nat.blt op 17) (al16) (al17)) (cond (Nat.blt op 19) (al18) (al19))) (cond (Nat.blt op 24) (cond (Nat.blt op 22) (cond (Nat.blt op 21) (al20) (al21)) (cond (Nat.blt op 23) (al22) (al23))) (cond (Nat.blt op 28) (cond (Nat.blt op 26) (cond (Nat.blt op 25) (al24) (al25)) (cond (Nat.blt op 27) (al26) (al27))) (cond (Nat.blt op 36) (cond (Nat.blt op 32) (cond (Nat.blt op 30) (cond (Nat.blt op 29) (al28) (al29)) (cond (Nat.blt op 31) (al30) (al31))) (cond (Nat.blt op 34) (cond (Nat.blt op 33) (al32) (al33)) (cond (Nat.blt op 35) (al34) (al35)))) (cond (Nat.blt op 44) (cond (Nat.blt op 40) (cond (Nat.blt op 38) (cond (Nat.blt op 37) (al36) (al37)) (cond (Nat.blt op 39) (al38) (al39))) (cond (Nat.blt op 42) (cond (Nat.blt op 41) (al40) (al41)) (cond (Nat.blt op 43) (al42) (al43)))) (cond (Nat.blt op 47) (cond (Nat.blt op 45) (al44) (cond (Nat.blt op 46) (al45) (al46))) (cond (Nat.blt op 49) (cond (Nat.blt op 48) (al47) (al48)) (cond (Nat.blt op 50) (al49) (al50))))))))))))
noncomputable def abod1 (N : Nat) (sj : Nat → Bool) (sm : aSM) (fin : aEn → Option aV → aHp → Bool) (ih : aF) : aF := fun n env fs d mi pc ls st h =>
  Nat.rec (motive := fun _ => Bool) false (fun n _ => match zfetch mi pc with
  | none => false
  | some (ins, ln, (a1, a2, a3), z, _) => afo (pc + ln) fun nx => a_step (acode ins).1 N sj sm fin ih n env fs d mi pc nx ls st h a1 a2 a3 z (acode ins).2.1 (acode ins).2.2) n
noncomputable def abody (N : Nat) (hit : Nat → Nat → Bool) (stop : aF) (sj : Nat → Bool) (sm : aSM) (fin : aEn → Option aV → aHp → Bool) (ih : aF) : aF := fun n env fs d mi pc ls st h =>
  cond (hit mi pc) (stop n env fs d mi pc ls st h) (abod1 N sj sm fin ih n env fs d mi pc ls st h)
noncomputable def zab (N : Nat) (hit : Nat → Nat → Bool) (stop : aF) (sj : Nat → Bool) (sm : aSM) (fin : aEn → Option aV → aHp → Bool) (F : Nat) : aF := Nat.rec (motive := fun _ => aF) (fun _ _ _ _ _ _ _ _ _ => false) (fun _ ih => abody N hit stop sj sm fin ih) F
section ASTEP
variable {E : zE} {V : Nat → Int32} {G : zH} {B : Nat} {Q : Option zR → Prop} {sj : Nat → Bool} {sm : aSM} {ih : aF} {N : Nat} {fin : aEn → Option aV → aHp → Bool} {env : aEn} {fs : List aFm} {cfs : List cFm} {h : aHp} {hc : zH} {n d mi pc nx : Nat} {ls : aLs} {lc : zLs} {st : aSt} {s : List Value}
set_option maxHeartbeats 2000000 in
set_option maxRecDepth 100000 in
theorem astep_s (IH : aIH E V G B Q ih) (hsm : aSm E V G B sm) (hV : aOK E V) (hN : Nat.blt N 2147483648 = true → E.1 = N) (hfin : aFin V G Q fin) (he : aenv V env) (hf : aFR V fs cfs) (hl : aLR V ls lc) (hs : aSR V st s) (hh : aHR V G h hc) {ln a1 a2 a3 : Nat} {z : Int32} {ins : Instr} (e : a_step (acode ins).1 N sj sm fin ih n env fs d mi pc (pc + ln) ls st h a1 a2 a3 z (acode ins).2.1 (acode ins).2.2 = true) : zsem E B Q cfs (zins E (zex E (B + n)) d mi pc lc s hc ln a1 a2 a3 z ins) := by
  have I : ∀ {env : aEn} {q : Nat} {l : aLs} {l' : zLs} {a : aSt} {s : List Value} {h : aHp} {h' : zH}, aenv V env → aLR V l l' → aSR V a s → aHR V G h h' → ih n env fs d mi q l a h = true → zsem E B Q cfs (zex E (B + n) d mi q l' s h') := fun he hl hs hh e => IH _ _ _ _ _ _ _ _ _ e _ _ _ _ he hf hl hs hh
  have J : ∀ {env : aEn} {q : Nat} {l : aLs} {l' : zLs} {a : aSt} {s : List Value} {h : aHp} {h' : zH}, aenv V env → aLR V l l' → aSR V a s → aHR V G h h' → (afo q fun q => ih n env fs d mi q l a h) = true → zsem E B Q cfs (zex E (B + n) d mi q l' s h') := fun he hl hs hh e => I he hl hs hh (by rw [afo_eq] at e; exact e)
  cases ins with
  | aload i =>
    have e : (a_ldA (fun s => ih n env fs d mi (pc + ln) ls s h) ls i st) = true := e
    exact a_ldA_s hl hs (fun _ _ h1 e => I he hl h1 hh e) e
  | aload_n i =>
    have e : (a_ldA (fun s => ih n env fs d mi (pc + ln) ls s h) ls i.val st) = true := e
    exact a_ldA_s hl hs (fun _ _ h1 e => I he hl h1 hh e) e
  | iload i =>
    have e : (a_ldI (fun s => ih n env fs d mi (pc + ln) ls s h) ls i st) = true := e
    exact a_ldI_s hl hs (fun _ _ h1 e => I he hl h1 hh e) e
  | iload_n i =>
    have e : (a_ldI (fun s => ih n env fs d mi (pc + ln) ls s h) ls i.val st) = true := e
    exact a_ldI_s hl hs (fun _ _ h1 e => I he hl h1 hh e) e
  | getfield i0 =>
    have e : (a_get (fun s => ih n env fs d mi (pc + ln) ls s h) h a1 a2 st) = true := e
    exact a_get_s hh hs (fun _ _ h1 e => I he hl h1 hh e) e
  | if_icmp c i0 =>
    have e : (a_if2 (fun env p s => afo p fun p => ih n env fs d mi p ls s h) env c a1 (pc + ln) st) = true := e
    exact a_if2_s he hs (fun _ _ _ p9 h1 h2 e => J (q := p9) h1 hl h2 hh e) e
  | istore i =>
    have e : (a_stI (fun l s => ih n env fs d mi (pc + ln) l s h) ls i st) = true := e
    exact a_stI_s hl hs (fun _ _ _ _ h1 h2 e => I he h1 h2 hh e) e
  | istore_n i =>
    have e : (a_stI (fun l s => ih n env fs d mi (pc + ln) l s h) ls i.val st) = true := e
    exact a_stI_s hl hs (fun _ _ _ _ h1 h2 e => I he h1 h2 hh e) e
  | iinc i i0 =>
    have e : (a_inc (fun l => ih n env fs d mi (pc + ln) l st h) env ls i z) = true := e
    exact a_inc_s he hl (fun _ _ h1 e => I he h1 hs hh e) e
  | goto i0 =>
    have e : (afo a1 fun p => ih n env fs d mi p ls st h) = true := e
    exact J he hl hs hh e
  | iaload =>
    have e : (a_ald N (fun s => ih n env fs d mi (pc + ln) ls s h) env h st) = true := e
    exact a_ald_s hV hN he hh hs (fun _ _ h1 e => I he hl h1 hh e) e
  | iconst i0 =>
    have e : (afo (aze z) fun c => ih n env fs d mi (pc + ln) ls (.inl c :: st) h) = true := e
    exact I he hl (s := .int z :: s) (aSR_ci (arel_enc V z) hs) hh (by rw [afo_eq] at e; exact e)
  | bipush i0 =>
    have e : (afo (aze z) fun c => ih n env fs d mi (pc + ln) ls (.inl c :: st) h) = true := e
    exact I he hl (s := .int z :: s) (aSR_ci (arel_enc V z) hs) hh (by rw [afo_eq] at e; exact e)
  | sipush i0 =>
    have e : (afo (aze z) fun c => ih n env fs d mi (pc + ln) ls (.inl c :: st) h) = true := e
    exact I he hl (s := .int z :: s) (aSR_ci (arel_enc V z) hs) hh (by rw [afo_eq] at e; exact e)
  | iastore =>
    have e : (a_ast (fun s h => ih n env fs d mi (pc + ln) ls s h) env h st) = true := e
    exact a_ast_s he hh hs (fun _ _ _ _ h1 h2 e => I he hl h2 h1 e) e
  | putfield i0 =>
    have e : (a_put (fun s h => ih n env fs d mi (pc + ln) ls s h) env h a1 a2 z st) = true := e
    exact a_put_s he hh hs (fun _ _ _ _ h1 h2 e => I he hl h2 h1 e) e
  | ireturn =>
    have e : (a_ire ih fin env fs mi st h) = true := e
    exact a_ire_s IH hfin he hf hh hs e
  | invokevirtual i0 =>
    have e : ((match (generalizing := false) a1 with
    | 0 => a_inv sj sm ih n env fs d mi pc (pc + ln) a2 (Nat.beq a3 0) ls st h
    | k + 1 => a_pri (fun env s h => ih n env fs d mi (pc + ln) ls s h) env (k + 1) st h)) = true := e
    cases a1 with
    | zero => exact a_inv_s IH hsm he hf hh hl hs e
    | succ k => exact a_pri_s (n := n) (d := d) (mi := mi) (nx := pc + ln) he hh hs (fun _ _ _ _ _ h0 h1 h2 e => I h0 hl h2 h1 e) e
  | new i0 =>
    have e : (a_new ih (fun s h => ih n env fs d mi (pc + ln) ls s h) env fs h a1 a2 st) = true := e
    exact a_new_s (K := fun s h => zex E (B + n) d mi (pc + ln) lc s h) IH he hf hh hs (fun _ _ _ _ h1 h2 e => I he hl h2 h1 e) e
  | dup =>
    have e : (a_dup (fun s => ih n env fs d mi (pc + ln) ls s h) st) = true := e
    unfold a_dup at e
    split at e
    · obtain ⟨w, r, h1, h2, h3⟩ := aSR_v hs
      subst h1
      obtain ⟨h4, e⟩ := acnd e
      rw [← ac1_s h2] at h4
      show zsem E B Q cfs (cond (zc1 w) (zex E (B + n) d mi (pc + ln) lc (w :: w :: r) hc) none)
      rw [h4]
      exact I he hl (aSR_cv h2 (aSR_cv h2 h3)) hh e
    · cases e
  | newarray i0 =>
    have e : (a_newa (fun s h => ih n env fs d mi (pc + ln) ls s h) env h a1 st) = true := e
    exact a_newa_s he hh hs (fun _ _ _ _ h1 h2 e => I he hl h2 h1 e) e
  | anewarray i0 =>
    have e : (a_newa (fun s h => ih n env fs d mi (pc + ln) ls s h) env h a1 st) = true := e
    exact a_newa_s he hh hs (fun _ _ _ _ h1 h2 e => I he hl h2 h1 e) e
  | iadd =>
    have e : (a_b2 (fun s => ih n env fs d mi (pc + ln) ls s h) env (fun a b => (a + b + 2147483648) % 4294967296) st) = true := e
    exact a_b2_s (fun _ _ _ _ h1 h2 => arel_of (aadd h1 h2)) he hs (fun _ _ h1 e => I he hl h1 hh e) e
  | return_ =>
    have e : (a_rtv ih fin env fs mi st h) = true := e
    exact a_rtv_s IH hfin he hf hh hs e
  | invokespecial i0 =>
    have e : ((match (generalizing := false) a1 with
    | 0 => a_inv sj sm ih n env fs d mi pc (pc + ln) a2 false ls st h
    | k + 1 => a_pri (fun env s h => ih n env fs d mi (pc + ln) ls s h) env (k + 1) st h)) = true := e
    cases a1 with
    | zero => exact a_inv_s IH hsm he hf hh hl hs e
    | succ k => exact a_pri_s (n := n) (d := d) (mi := mi) (nx := pc + ln) he hh hs (fun _ _ _ _ _ h0 h1 h2 e => I h0 hl h2 h1 e) e
  | invokestatic i0 =>
    have e : ((match (generalizing := false) a1 with
    | 0 => a_inv sj sm ih n env fs d mi pc (pc + ln) a2 (Nat.beq a3 0) ls st h
    | k + 1 => a_pri (fun env s h => ih n env fs d mi (pc + ln) ls s h) env (k + 1) st h)) = true := e
    cases a1 with
    | zero => exact a_inv_s IH hsm he hf hh hl hs e
    | succ k => exact a_pri_s (n := n) (d := d) (mi := mi) (nx := pc + ln) he hh hs (fun _ _ _ _ _ h0 h1 h2 e => I h0 hl h2 h1 e) e
  | aconst_null =>
    have e : (ih n env fs d mi (pc + ln) ls (.inr .null :: st) h) = true := e
    exact I he hl (s := .null :: s) (aSR_co hs) hh e
  | ifCond c i0 =>
    have e : (a_if1 (fun env p s => afo p fun p => ih n env fs d mi p ls s h) env c a1 (pc + ln) st) = true := e
    exact a_if1_s he hs (fun _ _ _ p9 h1 h2 e => J (q := p9) h1 hl h2 hh e) e
  | pop =>
    have e : (a_popv (fun s => ih n env fs d mi (pc + ln) ls s h) st) = true := e
    unfold a_popv at e
    split at e
    · obtain ⟨w, r, h1, h2, h3⟩ := aSR_v hs
      subst h1
      obtain ⟨h4, e⟩ := acnd e
      rw [← ac1_s h2] at h4
      show zsem E B Q cfs (cond (zc1 w) (zex E (B + n) d mi (pc + ln) lc r hc) none)
      rw [h4]
      exact I he hl h3 hh e
    · cases e
  | dup2 =>
    have e : (a_dup2 (fun s => ih n env fs d mi (pc + ln) ls s h) st) = true := e
    unfold a_dup2 at e
    split at e
    · obtain ⟨w, r, h1, h2, h3⟩ := aSR_v hs
      subst h1
      obtain ⟨u, r, h1, h5, h6⟩ := aSR_v h3
      subst h1
      obtain ⟨h4, e⟩ := acnd e
      rw [← ac1_s h2, ← ac1_s h5] at h4
      show zsem E B Q cfs (cond (zc1 w && zc1 u) (zex E (B + n) d mi (pc + ln) lc (w :: u :: w :: u :: r) hc) none)
      rw [h4]
      exact I he hl (aSR_cv h2 (aSR_cv h5 (aSR_cv h2 (aSR_cv h5 h6)))) hh e
    · cases e
  | isub =>
    have e : (a_b2 (fun s => ih n env fs d mi (pc + ln) ls s h) env (fun a b => (a + 6442450944 - b) % 4294967296) st) = true := e
    exact a_b2_s (fun _ _ _ _ h1 h2 => arel_of (asub h1 h2)) he hs (fun _ _ h1 e => I he hl h1 hh e) e
  | astore i =>
    have e : (a_stA (fun l s => ih n env fs d mi (pc + ln) l s h) ls i st) = true := e
    exact a_stA_s hl hs (fun _ _ _ _ h1 h2 e => I he h1 h2 hh e) e
  | astore_n i =>
    have e : (a_stA (fun l s => ih n env fs d mi (pc + ln) l s h) ls i.val st) = true := e
    exact a_stA_s hl hs (fun _ _ _ _ h1 h2 e => I he h1 h2 hh e) e
  | arraylength =>
    have e : (a_len N (fun s => ih n env fs d mi (pc + ln) ls s h) h st) = true := e
    exact a_len_s hN hh hs (fun _ _ h1 e => I he hl h1 hh e) e
  | iand =>
    have e : (a_and (fun s => ih n env fs d mi (pc + ln) ls s h) env st) = true := e
    exact a_and_s hV he hs (fun _ _ h1 e => I he hl h1 hh e) e
  | tableswitch df lo hi offs =>
    have e : (a_tsw (fun env p s => afo p fun p => ih n env fs d mi p ls s h) env a1 st) = true := e
    unfold a_tsw at e
    split at e
    · obtain ⟨x, r, h1, h2, h3⟩ := aSR_i hs
      subst h1
      split at e
      · rename_i l t hz
        obtain ⟨cx, h4, e⟩ := ares_s he h2 e
        show zsem E B Q cfs (match zat zsws a1 with
          | some (l, t) => zsw x l t (fun p => zex E (B + n) d mi p lc r hc)
          | none => none)
        rw [hz]
        exact a_sw_s (K := fun p => zex E (B + n) d mi p lc r hc) (fun _ _ h5 e => J h5 hl h3 hh e) he h4 e
      · cases e
    · cases e
  | i2l =>
    have e : (a_i2l (fun s => ih n env fs d mi (pc + ln) ls s h) env st) = true := e
    unfold a_i2l at e
    split at e
    · obtain ⟨x, r, h1, h2, h3⟩ := aSR_i hs
      subst h1
      obtain ⟨cx, h4, e⟩ := ares_s he h2 e
      obtain ⟨h5, e⟩ := acnd e
      rw [azb_of (azb_lit h5 h4)] at e
      exact I he hl (s := .long x.toInt64 :: r) (aSR_co h3) hh e
    · cases e
  | laload =>
    have e : (a_aldJ (fun s => ih n env fs d mi (pc + ln) ls s h) env h st) = true := e
    exact a_aldJ_s he hh hs (fun _ _ h1 e => I he hl h1 hh e) e
  | lcmp =>
    have e : (a_lcmp (fun s => ih n env fs d mi (pc + ln) ls s h) st) = true := e
    unfold a_lcmp at e
    split at e
    · obtain ⟨r, h1, h3⟩ := aSR_o hs
      subst h1
      obtain ⟨r, h1, h4⟩ := aSR_o h3
      subst h1
      rw [afo_eq] at e
      exact I he hl (s := .int (lg_cmp _ _) :: r) (aSR_ci (arel_enc V _) h4) hh e
    · cases e
  | lastore =>
    have e : (a_astJ (fun s h => ih n env fs d mi (pc + ln) ls s h) env h st) = true := e
    exact a_astJ_s he hh hs (fun _ _ _ _ h1 h2 e => I he hl h2 h1 e) e
  | imul =>
    have e : (a_b2 (fun s => ih n env fs d mi (pc + ln) ls s h) env (fun a b => aze (azb a * azb b)) st) = true := e
    exact a_b2_s (aslow _) he hs (fun _ _ h1 e => I he hl h1 hh e) e
  | idiv =>
    have e : (a_div (fun x y => x / y) (fun s => ih n env fs d mi (pc + ln) ls s h) env st) = true := e
    unfold a_div at e
    split at e
    · obtain ⟨y, r, h1, h2, h3⟩ := aSR_i hs
      subst h1
      obtain ⟨x, r, h1, h4, h5⟩ := aSR_i h3
      subst h1
      obtain ⟨cy, h6, e⟩ := ares_s he h2 e
      obtain ⟨h7, e⟩ := acnd e
      rw [Bool.and_eq_true] at h7
      obtain ⟨cx, h8, e⟩ := ares_s he h4 e
      have h9 := azb_lit h7.1 h6
      have h10 : ¬ y = 0 := by
        intro h11
        subst h11
        have h12 : (0 : Int32).toInt = 0 := by decide
        rw [h12] at h9
        have h13 : cy = 2147483648 := by omega
        rw [h13] at h7
        exact absurd h7.2 (by decide)
      show zsem E B Q cfs (znz y (zex E (B + n) d mi (pc + ln) lc (.int (x / y) :: r) hc))
      unfold znz
      rw [if_neg h10]
      cases h14 : Nat.blt cx 4294967296 with
      | true =>
        rw [h14, cond_true, afo_eq] at e
        rw [azb_of h9, azb_of (azb_lit h14 h8)] at e
        exact I he hl (aSR_ci (arel_enc V _) h5) hh e
      | false =>
        rw [h14, cond_false] at e
        exact I he hl (aSR_ci (arel_top V _) h5) hh e
    · cases e
  | irem =>
    have e : (a_div (fun x y => x - x / y * y) (fun s => ih n env fs d mi (pc + ln) ls s h) env st) = true := e
    unfold a_div at e
    split at e
    · obtain ⟨y, r, h1, h2, h3⟩ := aSR_i hs
      subst h1
      obtain ⟨x, r, h1, h4, h5⟩ := aSR_i h3
      subst h1
      obtain ⟨cy, h6, e⟩ := ares_s he h2 e
      obtain ⟨h7, e⟩ := acnd e
      rw [Bool.and_eq_true] at h7
      obtain ⟨cx, h8, e⟩ := ares_s he h4 e
      have h9 := azb_lit h7.1 h6
      have h10 : ¬ y = 0 := by
        intro h11
        subst h11
        have h12 : (0 : Int32).toInt = 0 := by decide
        rw [h12] at h9
        have h13 : cy = 2147483648 := by omega
        rw [h13] at h7
        exact absurd h7.2 (by decide)
      show zsem E B Q cfs (znz y (zex E (B + n) d mi (pc + ln) lc (.int (x - x / y * y) :: r) hc))
      unfold znz
      rw [if_neg h10]
      cases h14 : Nat.blt cx 4294967296 with
      | true =>
        rw [h14, cond_true, afo_eq] at e
        rw [azb_of h9, azb_of (azb_lit h14 h8)] at e
        exact I he hl (aSR_ci (arel_enc V _) h5) hh e
      | false =>
        rw [h14, cond_false] at e
        exact I he hl (aSR_ci (arel_top V _) h5) hh e
    · cases e
  | ishl =>
    have e : (a_b2 (fun s => ih n env fs d mi (pc + ln) ls s h) env (fun a b => aze (azb a <<< (azb b &&& 31))) st) = true := e
    exact a_b2_s (aslow _) he hs (fun _ _ h1 e => I he hl h1 hh e) e
  | ishr =>
    have e : (a_b2 (fun s => ih n env fs d mi (pc + ln) ls s h) env (fun a b => aze (azb a >>> (azb b &&& 31))) st) = true := e
    exact a_b2_s (aslow _) he hs (fun _ _ h1 e => I he hl h1 hh e) e
  | iushr =>
    have e : (a_b2 (fun s => ih n env fs d mi (pc + ln) ls s h) env (fun a b => aze (((azb a).toUInt32 >>> ((azb b).toUInt32 &&& Int32.toUInt32 31)).toInt32)) st) = true := e
    exact a_b2_s (aslow _) he hs (fun _ _ h1 e => I he hl h1 hh e) e
  | ixor =>
    have e : (a_b2 (fun s => ih n env fs d mi (pc + ln) ls s h) env (fun a b => aze (azb a ^^^ azb b)) st) = true := e
    exact a_b2_s (aslow _) he hs (fun _ _ h1 e => I he hl h1 hh e) e
  | ior =>
    have e : (a_b2 (fun s => ih n env fs d mi (pc + ln) ls s h) env (fun a b => aze (azb a ||| azb b)) st) = true := e
    exact a_b2_s (aslow _) he hs (fun _ _ h1 e => I he hl h1 hh e) e
  | i2b =>
    have e : (a_i2b (fun s => ih n env fs d mi (pc + ln) ls s h) env st) = true := e
    unfold a_i2b at e
    split at e
    · obtain ⟨x, r, h1, h2, h3⟩ := aSR_i hs
      subst h1
      obtain ⟨cx, h4, e⟩ := a_by_s he h2 e
      exact I he hl (s := .int x.toInt8.toInt32 :: r) (aSR_ci (h4) h3) hh e
    · cases e
  | bastore =>
    have e : (a_astB (fun s h => ih n env fs d mi (pc + ln) ls s h) env h st) = true := e
    exact a_astB_s he hh hs (fun _ _ _ _ h1 h2 e => I he hl h2 h1 e) e
  | baload =>
    have e : (a_aldB (fun s => ih n env fs d mi (pc + ln) ls s h) env h st) = true := e
    exact a_aldB_s he hh hs (fun _ _ h1 e => I he hl h1 hh e) e
  | aaload =>
    have e : (a_aldA (fun s => ih n env fs d mi (pc + ln) ls s h) env h st) = true := e
    exact a_aldA_s he hh hs (fun _ _ h1 e => I he hl h1 hh e) e
  | aastore =>
    have e : (a_astA (fun s h => ih n env fs d mi (pc + ln) ls s h) env h st) = true := e
    exact a_astA_s he hh hs (fun _ _ _ _ h1 h2 e => I he hl h2 h1 e) e
  | ifnull i0 =>
    have e : (a_nul (fun p s => afo p fun p => ih n env fs d mi p ls s h) a1 (pc + ln) st) = true := e
    exact a_nul_s hs (fun _ _ p9 h1 e => J (q := p9) he hl h1 hh e) e
  | ifnonnull i0 =>
    have e : (a_nul (fun p s => afo p fun p => ih n env fs d mi p ls s h) (pc + ln) a1 st) = true := e
    exact a_nul_s hs (fun _ _ p9 h1 e => J (q := p9) he hl h1 hh e) e
  | ldc i0 =>
    have e : ((match (generalizing := false) a1 with
    | 0 => afo (aze z) fun c => ih n env fs d mi (pc + ln) ls (.inl c :: st) h
    | 1 => ih n env fs d mi (pc + ln) ls (.inr (.retAddr a2) :: st) h
    | _ => false)) = true := e
    cases a1 with
    | zero => exact I he hl (s := .int z :: s) (aSR_ci (arel_enc V z) hs) hh (by simp only [afo_eq] at e; exact e)
    | succ a1 =>
      cases a1 with
      | zero => exact I he hl (s := .retAddr a2 :: s) (aSR_co hs) hh e
      | succ a1 => cases e
  | ldc_w i0 =>
    have e : ((match (generalizing := false) a1 with
    | 0 => afo (aze z) fun c => ih n env fs d mi (pc + ln) ls (.inl c :: st) h
    | _ => false)) = true := e
    cases a1 with
    | zero => exact I he hl (s := .int z :: s) (aSR_ci (arel_enc V z) hs) hh (by simp only [afo_eq] at e; exact e)
    | succ a1 => cases e
  | _ => exact absurd (show false = true from e) (fun z => nomatch z)
set_option maxRecDepth 100000 in
theorem abod1_s (IH : aIH E V G B Q ih) (hsm : aSm E V G B sm) (hV : aOK E V) (hN : Nat.blt N 2147483648 = true → E.1 = N) (hfin : aFin V G Q fin) : aIH E V G B Q (abod1 N sj sm fin ih) := by
  intro n env fs d mi pc ls st h e cfs lc s hc he hf hl hs hh
  cases n with
  | zero => exact absurd (show false = true from e) (fun z => nomatch z)
  | succ n =>
    have e : (match zfetch mi pc with
      | none => false
      | some (ins, ln, (a1, a2, a3), z, _) => afo (pc + ln) fun nx => a_step (acode ins).1 N sj sm fin ih n env fs d mi pc nx ls st h a1 a2 a3 z (acode ins).2.1 (acode ins).2.2) = true := e
    show zsem E B Q cfs (zex E (B + n + 1) d mi pc lc s hc)
    rw [zex_succ]
    unfold zbody
    split at e
    · cases e
    · rename_i ins ln a1 a2 a3 z w hz
      rw [hz]
      rw [afo_eq] at e
      exact astep_s IH hsm hV hN hfin he hf hl hs hh e
set_option maxRecDepth 100000 in
theorem abody_s {hit : Nat → Nat → Bool} {stop : aF} (hst : aIH E V G B Q stop) (IH : aIH E V G B Q ih) (hsm : aSm E V G B sm) (hV : aOK E V) (hN : Nat.blt N 2147483648 = true → E.1 = N) (hfin : aFin V G Q fin) : aIH E V G B Q (abody N hit stop sj sm fin ih) := by
  intro n env fs d mi pc ls st h e
  unfold abody at e
  cases h1 : hit mi pc with
  | false =>
    rw [h1, cond_false] at e
    exact abod1_s IH hsm hV hN hfin n env fs d mi pc ls st h e
  | true =>
    rw [h1, cond_true] at e
    exact hst n env fs d mi pc ls st h e
set_option maxRecDepth 100000 in
theorem zab_s {hit : Nat → Nat → Bool} {stop : aF} (hst : aIH E V G B Q stop) (hsm : aSm E V G B sm) (hV : aOK E V) (hN : Nat.blt N 2147483648 = true → E.1 = N) (hfin : aFin V G Q fin) : ∀ F, aIH E V G B Q (zab N hit stop sj sm fin F)
  | 0 => fun _ _ _ _ _ _ _ _ _ e => nomatch (show false = true from e)
  | F + 1 => abody_s hst (zab_s hst hsm hV hN hfin F) hsm hV hN hfin
end ASTEP
