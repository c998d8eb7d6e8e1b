abbrev aGN : Type := Nat → Nat → aEn → aLs → aHp → (aEn → aLs → aHp → Bool) → Bool
noncomputable def a_wid (es : List (Nat × Nat × Nat)) : aEn → (aEn → Bool) → Bool := List.rec (motive := fun _ => aEn → (aEn → Bool) → Bool) (fun env k => k env)
  (fun q _ ih env k => match agt env q.1 with
    | some (a, b) => cond (Nat.ble q.2.1 a && Nat.ble b q.2.2) (asd (0, 4294967296) q.1 q.2 env fun env => ih env k) (ih env k)
    | none => false) es
noncomputable def a_fgt (is : List Nat) : aLs → (aLs → Bool) → Bool := List.rec (motive := fun _ => aLs → (aLs → Bool) → Bool) (fun ls k => k ls)
  (fun i _ ih ls k => match agt ls i with
    | some _ => asd none i none ls fun ls => ih ls k
    | none => false) is
noncomputable def a_top (cs : List (Nat × Nat)) : aHp → (aHp → Bool) → Bool := List.rec (motive := fun _ => aHp → (aHp → Bool) → Bool) (fun h k => k h)
  (fun q _ ih h k => match aget h.1 q.1 with
    | some (.inl x, t) => asI t q.2 1152921504606846976 fun t' => aput h.1 q.1 (.inl x, t') fun cs => a_mk cs h fun h => ih h k
    | some (.inr (.inl x), t) => asI t q.2 1152921504606846976 fun t' => aput h.1 q.1 (.inr (.inl x), t') fun cs => a_mk cs h fun h => ih h k
    | _ => false) cs
noncomputable def a_gen (D : Nat → Nat → List (Nat × Nat × Nat) × List Nat × List (Nat × Nat)) : aGN := fun mi pc env ls h k => match D mi pc with
  | (es, is, cs) => a_wid es env fun env => a_fgt is ls fun ls => a_top cs h fun h => k env ls h
section AGEN
variable {V : Nat → Int32} {G : zH}
set_option maxRecDepth 100000 in
theorem a_wid_s : ∀ {es : List (Nat × Nat × Nat)} {env : aEn} {k : aEn → Bool}, aenv V env → a_wid es env k = true → ∃ env', aenv V env' ∧ k env' = true
  | [], env, k, he, e => ⟨env, he, e⟩
  | q :: es, env, k, he, e => by
    have e : (match agt env q.1 with
      | some (a, b) => cond (Nat.ble q.2.1 a && Nat.ble b q.2.2) (asd (0, 4294967296) q.1 q.2 env fun env => a_wid es env k) (a_wid es env k)
      | none => false) = true := e
    split at e
    · rename_i a b hz
      cases h0 : (Nat.ble q.2.1 a && Nat.ble b q.2.2) with
      | false =>
        rw [h0, cond_false] at e
        exact a_wid_s (es := es) he e
      | true =>
        rw [h0, cond_true] at e
        rw [Bool.and_eq_true, abe, abe] at h0
        rw [agt_eq] at hz
        have h2 := he _ _ _ hz
        have hlt := zat_lt hz
        rw [asd_eq, asl_zset _ _ _ _ hlt] at e
        refine a_wid_s (es := es) ?_ e
        intro j x y hj
        rw [zat_zset _ _ _ _ hlt] at hj
        by_cases hji : j = q.1
        · rw [if_pos hji] at hj
          have e1 : q.2.1 = x := congrArg Prod.fst (Option.some.inj hj)
          have e2 : q.2.2 = y := congrArg Prod.snd (Option.some.inj hj)
          rw [hji, ← e1, ← e2]
          constructor
          · have := h0.1; omega
          · have := h0.2; omega
        · rw [if_neg hji] at hj
          exact he _ _ _ hj
    · cases e
set_option maxRecDepth 100000 in
theorem aLR_none : ∀ {a : aLs} {l : zLs} {i : Nat}, aLR V a l → i < a.length → aLR V (zset a i none) l
  | [], _, _, _, h => absurd h (Nat.not_lt_zero _)
  | _ :: _, [], _, h, _ => h.elim
  | _ :: _, _ :: _, 0, h, _ => ⟨trivial, h.2⟩
  | _ :: a, _ :: l, i + 1, h, hi => ⟨h.1, aLR_none (a := a) (l := l) h.2 (Nat.lt_of_succ_lt_succ hi)⟩
set_option maxRecDepth 100000 in
theorem a_fgt_s {l : zLs} : ∀ {is : List Nat} {ls : aLs} {k : aLs → Bool}, aLR V ls l → a_fgt is ls k = true → ∃ ls', aLR V ls' l ∧ k ls' = true
  | [], ls, k, hl, e => ⟨ls, hl, e⟩
  | i :: is, ls, k, hl, e => by
    have e : (match agt ls i with
      | some _ => asd none i none ls fun ls => a_fgt is ls k
      | none => false) = true := e
    split at e
    · rename_i o hz
      rw [agt_eq] at hz
      have hlt := zat_lt hz
      rw [asd_eq, asl_zset _ _ _ _ hlt] at e
      exact a_fgt_s (is := is) (aLR_none hl hlt) e
    · cases e
set_option maxRecDepth 100000 in
theorem aHR_set {ah : aHp} {h : zH} (hr : aHR V G ah h) {a : Nat} {s : zS} {t t' : aT} (hg : aget ah.1 a = some (s, t)) (hs : s ≠ .inr (.inr ())) (hf : ∀ j, arel V (agI t' j) (h.2.1 a j)) {k : List (List (zS × aT)) → Bool} (e : aput ah.1 a (s, t') k = true) : ∃ cs, aHR V G (cs, ah.2) h ∧ k cs = true := by
  obtain ⟨cs, h1, h2⟩ := aI_s (f := h.2.1 a) hr hg hs hf e
  have h3 : zsetI h a (h.2.1 a) = h := by
    obtain ⟨sh, v, r⟩ := h
    show (sh, zrow v a (v a), r) = _
    have h4 : zrow v a (v a) = v := by
      funext c
      by_cases hc : c = a
      · rw [hc, zrow_at]
      · rw [zrow_ne _ _ hc]
    rw [h4]
  rw [h3] at h1
  exact ⟨cs, h1, h2⟩
set_option maxRecDepth 100000 in
theorem a_top_s {h : zH} : ∀ {cs : List (Nat × Nat)} {ah : aHp} {k : aHp → Bool}, aHR V G ah h → a_top cs ah k = true → ∃ ah', aHR V G ah' h ∧ k ah' = true
  | [], ah, k, hh, e => ⟨ah, hh, e⟩
  | q :: cs, ah, k, hh, e => by
    have e : (match aget ah.1 q.1 with
      | some (.inl x, t) => asI t q.2 1152921504606846976 fun t' => aput ah.1 q.1 (.inl x, t') fun cs' => a_mk cs' ah fun h => a_top cs h k
      | some (.inr (.inl x), t) => asI t q.2 1152921504606846976 fun t' => aput ah.1 q.1 (.inr (.inl x), t') fun cs' => a_mk cs' ah fun h => a_top cs h k
      | _ => false) = true := e
    have core : ∀ {s : zS} {t : aT}, s ≠ .inr (.inr ()) → aget ah.1 q.1 = some (s, t) → (asI t q.2 1152921504606846976 fun t' => aput ah.1 q.1 (s, t') fun cs' => a_mk cs' ah fun h => a_top cs h k) = true → ∃ ah', aHR V G ah' h ∧ k ah' = true := by
      intro s t hs hg e
      obtain ⟨t', c1, e⟩ := asI_s e
      obtain ⟨-, f2⟩ := hh.1 _ _ _ hg hs
      obtain ⟨cs', c2, e⟩ := aHR_set hh hg hs (fun j => by
        rw [c1]
        by_cases hj : j = q.2
        · rw [if_pos hj]; exact arel_top V _
        · rw [if_neg hj]; exact f2 j) e
      rw [a_mk_eq] at e
      exact a_top_s (cs := cs) c2 e
    split at e
    · rename_i hg
      exact core (by intro z; cases z) hg e
    · rename_i hg
      exact core (by intro z; cases z) hg e
    · cases e
end AGEN
noncomputable def zlv (N : Nat) (hit : Nat → Nat → Bool) (gen : aGN) (sj : Nat → Bool) (sm : aSM) (fin : aEn → Option aV → aHp → Bool) (F m : Nat) : aF := Nat.rec (motive := fun _ => aF) (fun _ _ _ _ _ _ _ _ _ => false)
  (fun _ ihm => zab N hit (fun n env fs d mi pc ls st h => gen mi pc env ls h fun env ls h => abod1 N sj sm fin ihm n env fs d mi pc ls st h) sj sm fin F) m
section AGEN2
variable {E : zE} {V : Nat → Int32} {G : zH} {B : Nat} {Q : Option zR → Prop} {sj : Nat → Bool} {sm : aSM} {N : Nat} {fin : aEn → Option aV → aHp → Bool}
set_option maxRecDepth 100000 in
theorem zlv_s {hit : Nat → Nat → Bool} {D : Nat → Nat → List (Nat × Nat × Nat) × List Nat × List (Nat × Nat)} (hsm : aSm E V G B sm) (hV : aOK E V) (hN : E.1 = N) (hfin : aFin V G Q fin) (F : Nat) : ∀ m, aIH E V G B Q (zlv N hit (a_gen D) sj sm fin F m)
  | 0 => fun _ _ _ _ _ _ _ _ _ e => nomatch (show false = true from e)
  | m + 1 => by
    refine zab_s (stop := fun n env fs d mi pc ls st h => a_gen D mi pc env ls h fun env ls h => abod1 N sj sm fin (zlv N hit (a_gen D) sj sm fin F m) n env fs d mi pc ls st h) ?_ hsm hV hN hfin F
    intro n env fs d mi pc ls st h e cfs lc s hc he hf hl hs hh
    have e : (match D mi pc with
      | (es, is, cs) => a_wid es env fun env => a_fgt is ls fun ls => a_top cs h fun h => abod1 N sj sm fin (zlv N hit (a_gen D) sj sm fin F m) n env fs d mi pc ls st h) = true := e
    split at e
    obtain ⟨env', he', e⟩ := a_wid_s he e
    obtain ⟨ls', hl', e⟩ := a_fgt_s hl e
    obtain ⟨ah', hh', e⟩ := a_top_s hh e
    exact abod1_s (zlv_s hsm hV hN hfin F m) hsm hV hN hfin _ _ _ _ _ _ _ _ _ e cfs lc s hc he' hf hl' hs hh'
end AGEN2
