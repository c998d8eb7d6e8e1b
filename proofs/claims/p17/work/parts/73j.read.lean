/-! the class's reader of THE HOUSE: a line, the whole text, exactly (wip/zab2/c/geng10.py) -/
set_option maxRecDepth 100000 in
theorem int3 : (3 : Int32).toInt = 3 := by decide
set_option maxRecDepth 100000 in
theorem int59 : (59 : Int32).toInt = 59 := by decide
set_option maxRecDepth 100000 in
theorem int14 : (14 : Int32).toInt = 14 := by decide
set_option maxRecDepth 100000 in
theorem intm1 : (-1 : Int32).toInt = -1 := by decide
set_option maxRecDepth 100000 in
theorem ks2 : bg2 ctb 2 = some (.inl (0, 400, [])) := rfl
set_option maxRecDepth 100000 in
theorem isSgnE {h : zH} {L s : Nat} (hct : CT h (tp2 h) L s) (hL4 : L ≤ 400) (a1 : zat h.1 1 = some (.inr (.inl (9, [some (some 2), none, none, none, none, none])))) (a2 : zat h.1 2 = some (.inl (0, 400, []))) : ∀ (E : zE) f d, zex E (f + 20) d 183 0 [some (.ref 1), some (.int 59)] [] h = some (.inl (some (.int (if sqs (tp2 h) L s 59 = true then 1 else 0))), h) := by
  intro E f d
  have hk1 : (h.2.1 1 2).toInt = (kK (tp2 h) L s : Int) := hct.2.1
  unfold sqs
  by_cases h1 : kK (tp2 h) L s = 3
  · have hs : s < L := kK_l (T := tp2 h) (by omega)
    by_cases h2 : tp2 h s = 59
    · rw [decide_eq_true h1, decide_eq_true h2, if_pos (show (true && true) = true from rfl)]
      exact isS_c (E := E) (n := f + 6) (d := d) (c := 59) (S := s) (by rw [hk1, int3, h1]; rfl) hct.2.2.1 (by omega) rfl (by rw [int59]; exact h2) a1 a2
    · rw [decide_eq_true h1, decide_eq_false h2, if_neg (show ¬ (true && false) = true by decide)]
      exact isS_b (E := E) (n := f + 7) (d := d) (c := 59) (S := s) (by rw [hk1, int3, h1]; rfl) hct.2.2.1 (by omega) rfl (by rw [int59]; exact h2) a1 a2
  · rw [decide_eq_false h1, Bool.false_and, if_neg (show ¬ false = true by decide)]
    exact isS_a (E := E) (n := f + 14) (d := d) (c := 59) (by rw [hk1, int3]; omega) a1
set_option maxRecDepth 100000 in
theorem wix_r {T : Nat → Int} {L s : Nat} : ∀ (l : List (List Nat)) (k : Int), 0 ≤ k → wix T L s l k = -1 ∨ (k ≤ wix T L s l k ∧ wix T L s l k < k + l.length)
  | [], _, _ => Or.inl rfl
  | u :: l, k, hk => by
    unfold wix
    have hl : ((u :: l).length : Int) = (l.length : Int) + 1 := by rw [List.length_cons]; omega
    split
    · exact Or.inr ⟨Int.le_refl _, by omega⟩
    · rcases wix_r l (k + 1) (by omega) with h | h
      · exact Or.inl h
      · exact Or.inr ⟨by omega, by omega⟩
set_option maxRecDepth 100000 in
theorem ln_step {h0 : zH} {L : Nat} {r : (hSt × Nat) ⊕ Nat} {o : Option zR} (k : lnC h0 L r o) : ∃ v h2, (v = 0 ∨ v = 1) ∧ o = some (.inl (some (.int v)), h2) ∧ ∀ o', o' = some (.inl (some (.int v)), h2) → lnC h0 L r o' := by
  cases r with
  | inl p =>
    obtain ⟨h', e, k⟩ := k
    exact ⟨1, h', Or.inr rfl, e, fun o' eo => ⟨h', eo, k⟩⟩
  | inr w =>
    obtain ⟨h', e, k⟩ := k
    exact ⟨0, h', Or.inl rfl, e, fun o' eo => ⟨h', eo, k⟩⟩
set_option maxRecDepth 100000 in
theorem hb_n {T : Nat → Int} {L R : Nat} {l : List (Nat × Nat)} : ∀ (n k fi la : Nat) (w : Nat → Nat) (s : Nat) {r : Nat × (Nat → Nat) × Nat}, hbq T L R l n k fi la w s = .inl r → r.1 ≤ 12
  | 0, _, _, _, _, _, _, h => by cases h
  | n + 1, k, fi, la, w, s, r, h => by
    unfold hbq at h
    by_cases h12 : 12 ≤ k
    · rw [if_pos h12] at h; cases h
    · rw [if_neg h12] at h
      cases hn : nmq T L s 0 ((R : Int) - 1) with
      | none => rw [hn] at h; cases h
      | some v =>
        rw [hn] at h
        dsimp only at h
        by_cases q1 : k ≠ 0 ∧ lead l la v.toNat = false
        · rw [if_pos q1] at h; cases h
        · rw [if_neg q1] at h
          by_cases q2 : kK T L (nxt T L s) = 1
          · rw [if_pos q2] at h
            exact hb_n n _ _ _ _ _ h
          · rw [if_neg q2] at h
            by_cases q3 : lead l v.toNat (if k = 0 then v.toNat else fi) = true
            · rw [if_pos q3] at h
              have h := Sum.inl.inj h
              subst h
              show k + 1 ≤ 12
              omega
            · rw [if_neg q3] at h; cases h
section WFp
variable {T : Nat → Int} {L s e : Nat} {σ σ' : hSt}
set_option maxRecDepth 100000 in
theorem wf_room (hW : WF σ) (h : roomq T L σ s = .inl (σ', e)) : WF σ' := by
  obtain ⟨w1, w2, w3, w4, w5, w6⟩ := hW
  unfold roomq at h
  by_cases h12 : 12 ≤ sR σ
  · rw [if_pos h12] at h; cases h
  · rw [if_neg h12] at h
    by_cases q : uSorts.any (wqs T L (nxt T L s)) = true
    · rw [if_pos q] at h
      cases hn : nmq T L (nxt T L (nxt T L s)) 1 99 with
      | none => rw [hn] at h; cases h
      | some v =>
        rw [hn] at h
        have h := (Prod.mk.inj (Sum.inl.inj h)).1
        subst h
        exact ⟨by show sR σ + 1 ≤ 12; omega, w2, w3, w4, fun q hq => ⟨by show q.1 < sR σ + 1; have := (w5 q hq).1; omega, by show q.2 < sR σ + 1; have := (w5 q hq).2; omega⟩, w6⟩
    · rw [if_neg q] at h; cases h
set_option maxRecDepth 100000 in
theorem wf_door (hW : WF σ) (h : doorq T L σ s = .inl (σ', e)) : WF σ' := by
  obtain ⟨w1, w2, w3, w4, w5, w6⟩ := hW
  unfold doorq at h
  by_cases h20 : 20 ≤ sD σ
  · rw [if_pos h20] at h; cases h
  · rw [if_neg h20] at h
    cases hn : twoq T L (nxt T L s) ((sR σ : Int) - 1) ((sR σ : Int) - 1) with
    | inr w => rw [hn] at h; cases h
    | inl p =>
      obtain ⟨a, b, e2⟩ := p
      rw [hn] at h
      dsimp only at h
      obtain ⟨⟨a1, a2⟩, ⟨b1, b2⟩, -⟩ := twoq_b hn
      by_cases q : a = b
      · rw [if_pos q] at h; cases h
      · rw [if_neg q] at h
        have h := (Prod.mk.inj (Sum.inl.inj h)).1
        subst h
        refine ⟨w1, by show sD σ + 1 ≤ 20; omega, w3, ?_, ?_, w6⟩
        · show (sdl σ ++ [(a.toNat, b.toNat)]).length = sD σ + 1
          rw [List.length_append, w4]
          rfl
        · intro q hq
          have hq : q ∈ sdl σ ++ [(a.toNat, b.toNat)] := hq
          show q.1 < sR σ ∧ q.2 < sR σ
          rcases List.mem_append.mp hq with hq | hq
          · exact w5 q hq
          · have hq := List.mem_singleton.mp hq
            subst hq
            exact ⟨by show a.toNat < sR σ; omega, by show b.toNat < sR σ; omega⟩
set_option maxRecDepth 100000 in
theorem wf_per (hW : WF σ) (h : perq T L σ s = .inl (σ', e)) : WF σ' := by
  obtain ⟨w1, w2, w3, w4, w5, w6⟩ := hW
  unfold perq at h
  by_cases h8 : 8 ≤ sP σ
  · rw [if_pos h8] at h; cases h
  · rw [if_neg h8] at h
    cases hn : hbq T L (sR σ) (sdl σ) 13 0 0 0 (fun _ => 0) (nxt T L s) with
    | inr w => rw [hn] at h; cases h
    | inl p =>
      have hb := hb_n _ _ _ _ _ _ hn
      obtain ⟨n, w, e2⟩ := p
      rw [hn] at h
      have h := (Prod.mk.inj (Sum.inl.inj h)).1
      subst h
      refine ⟨w1, w2, by show sP σ + 1 ≤ 8; omega, w4, w5, fun p hp => ?_⟩
      have hp : p < sP σ + 1 := hp
      show (if p = sP σ then n else ssl σ p) ≤ 12
      by_cases hz : p = sP σ
      · rw [if_pos hz]; exact hb
      · rw [if_neg hz]; exact w6 p (by omega)
set_option maxRecDepth 100000 in
theorem wf_load (hW : WF σ) (h : loadq T L σ s = .inl (σ', e)) : WF σ' := by
  unfold loadq at h
  cases hn : twoq T L (nxt T L s) ((sP σ : Int) - 1) 9999 with
  | inr w => rw [hn] at h; cases h
  | inl p =>
    rw [hn] at h
    have h := (Prod.mk.inj (Sum.inl.inj h)).1
    subst h
    exact hW
set_option maxRecDepth 100000 in
theorem wf_sand (hW : WF σ) (h : sandq T L σ s = .inl (σ', e)) : WF σ' := by
  unfold sandq at h
  cases hm : nmq T L (nxt T L s) 0 ((sR σ : Int) - 1) with
  | none => rw [hm] at h; cases h
  | some v =>
    rw [hm] at h
    dsimp only at h
    cases hn : twoq T L (nxt T L (nxt T L s)) ((sP σ : Int) - 1) 9999 with
    | inr w => rw [hn] at h; cases h
    | inl p =>
      rw [hn] at h
      have h := (Prod.mk.inj (Sum.inl.inj h)).1
      subst h
      exact hW
set_option maxRecDepth 100000 in
theorem wf_tool (hW : WF σ) (h : toolq T L σ s = .inl (σ', e)) : WF σ' := by
  unfold toolq at h
  cases hn : twoq T L (nxt T L s) ((sR σ : Int) - 1) 100 with
  | inr w => rw [hn] at h; cases h
  | inl p =>
    rw [hn] at h
    have h := (Prod.mk.inj (Sum.inl.inj h)).1
    subst h
    exact hW
set_option maxRecDepth 100000 in
theorem wf_keep (hW : WF σ) (h : keepq T L σ s = .inl (σ', e)) : WF σ' := by
  unfold keepq at h
  cases hn : twoq T L (nxt T L s) ((sP σ : Int) - 1) 100 with
  | inr w => rw [hn] at h; cases h
  | inl p =>
    rw [hn] at h
    have h := (Prod.mk.inj (Sum.inl.inj h)).1
    subst h
    exact hW
set_option maxRecDepth 100000 in
theorem wf_wet (hW : WF σ) (h : wetq T L σ s = .inl (σ', e)) : WF σ' := by
  unfold wetq at h
  cases hn : twoq T L (nxt T L s) ((sP σ : Int) - 1) 99 with
  | inr w => rw [hn] at h; cases h
  | inl p =>
    rw [hn] at h
    have h := (Prod.mk.inj (Sum.inl.inj h)).1
    subst h
    exact hW
set_option maxRecDepth 100000 in
theorem wf_clog (hW : WF σ) (h : clogq T L σ s = .inl (σ', e)) : WF σ' := by
  unfold clogq at h
  cases hm : nmq T L (nxt T L s) 0 99999 with
  | none => rw [hm] at h; cases h
  | some v =>
    rw [hm] at h
    have h := (Prod.mk.inj (Sum.inl.inj h)).1
    subst h
    exact hW
set_option maxRecDepth 100000 in
theorem hl_wf (hW : WF σ) (h : hlq T L σ s = .inl (σ', e)) : WF σ' := by
  unfold hlq at h
  split at h
  · exact wf_room hW h
  · exact wf_door hW h
  · exact wf_per hW h
  · exact wf_load hW h
  · exact wf_sand hW h
  · exact wf_tool hW h
  · exact wf_keep hW h
  · exact wf_wet hW h
  · exact wf_clog hW h
  · cases h
end WFp
section LX
variable {E : zE} {B F : Nat} {h0 h : zH} {L s : Nat} {σ : hSt}
set_option maxRecDepth 100000 in
theorem hlineE (hE : E.1 < 2147483648) (hsm : bSO E ctb B (60, smT)) (hb9 : ∀ i, 0 ≤ tp2 h0 i ∧ tp2 h0 i ≤ 255) (hF : 1000000 ≤ F) (hL4 : L ≤ 400) (hX : XL h0 L h s) (hR : RC h 63 69 σ) (hW : WF σ) :
    ∀ d f, 65 ≤ d → B + F * 16000 ≤ f → lnC h0 L (hlq (tp2 h0) L σ s) (zex E f d 131 0 [some (.ref 62), some (.ref 1)] [] h) := by
  intro d f hd hf
  obtain ⟨d', hd'⟩ : ∃ d', d = d' + 1 := ⟨d - 1, by omega⟩
  obtain ⟨n, hn⟩ : ∃ n, f = n + 20 := ⟨f - 20, by omega⟩
  subst hd' hn
  obtain ⟨x, h1, e1, hx, x1, c1⟩ := xwam hE hsm hb9 hF hL4 hX (w := 0) (by decide) waw_0 (by decide) d' (n + 17) (by omega) (by omega)
  have hR1 := RC_S hR (SM_C c1)
  have a1 := ha_1 hX.1
  have a62 := ha_62 x1.1
  unfold hlq
  rcases wix_r (T := tp2 h0) (L := L) (s := s) uHouse 0 (Int.le_refl _) with hw | ⟨hw1, hw2⟩
  · rw [hw] at hx ⊢
    have hx : x = -1 := Int32.toInt_inj.mp (hx.trans intm1.symm)
    subst hx
    obtain ⟨r1, r2⟩ := xref x1 x1.2.1.2.2.1 E (n + 7) d'
    exact ⟨_, hlx_9 (n := n + 11) (d := d') a1 (ha_1 x1.1) a62 e1 r1, r2⟩
  · have hw2 : wix (tp2 h0) L s uHouse 0 < 9 := hw2
    generalize wix (tp2 h0) L s uHouse 0 = z at hx hw1 hw2
    have : z = 0 ∨ z = 1 ∨ z = 2 ∨ z = 3 ∨ z = 4 ∨ z = 5 ∨ z = 6 ∨ z = 7 ∨ z = 8 := by omega
    rcases this with rfl | rfl | rfl | rfl | rfl | rfl | rfl | rfl | rfl
    · have hx : x = 0 := Int32.toInt_inj.mp (hx.trans (by decide))
      subst hx
      show lnC h0 L (roomq (tp2 h0) L σ s) _
      obtain ⟨v, h2, hv, e2, kk⟩ := ln_step (roomE hE hsm hb9 hF hL4 x1 hR1 hW d' (n + 13) (by omega) (by omega))
      exact kk _ (hlx_0 (n := n + 12) (d := d') hv a1 a62 e1 e2)
    · have hx : x = 1 := Int32.toInt_inj.mp (hx.trans (by decide))
      subst hx
      show lnC h0 L (doorq (tp2 h0) L σ s) _
      obtain ⟨v, h2, hv, e2, kk⟩ := ln_step (doorE hE hsm hb9 hF hL4 x1 hR1 hW d' (n + 13) (by omega) (by omega))
      exact kk _ (hlx_1 (n := n + 12) (d := d') hv a1 a62 e1 e2)
    · have hx : x = 2 := Int32.toInt_inj.mp (hx.trans (by decide))
      subst hx
      show lnC h0 L (perq (tp2 h0) L σ s) _
      obtain ⟨v, h2, hv, e2, kk⟩ := ln_step (personE hE hsm hb9 hF hL4 x1 hR1 hW d' (n + 13) (by omega) (by omega))
      exact kk _ (hlx_2 (n := n + 12) (d := d') hv a1 a62 e1 e2)
    · have hx : x = 3 := Int32.toInt_inj.mp (hx.trans (by decide))
      subst hx
      show lnC h0 L (loadq (tp2 h0) L σ s) _
      obtain ⟨v, h2, hv, e2, kk⟩ := ln_step (loadE hE hsm hb9 hF hL4 x1 hR1 hW d' (n + 13) (by omega) (by omega))
      exact kk _ (hlx_3 (n := n + 12) (d := d') hv a1 a62 e1 e2)
    · have hx : x = 4 := Int32.toInt_inj.mp (hx.trans (by decide))
      subst hx
      show lnC h0 L (sandq (tp2 h0) L σ s) _
      obtain ⟨v, h2, hv, e2, kk⟩ := ln_step (sandE hE hsm hb9 hF hL4 x1 hR1 hW d' (n + 13) (by omega) (by omega))
      exact kk _ (hlx_4 (n := n + 12) (d := d') hv a1 a62 e1 e2)
    · have hx : x = 5 := Int32.toInt_inj.mp (hx.trans (by decide))
      subst hx
      show lnC h0 L (toolq (tp2 h0) L σ s) _
      obtain ⟨v, h2, hv, e2, kk⟩ := ln_step (toolE hE hsm hb9 hF hL4 x1 hR1 hW d' (n + 13) (by omega) (by omega))
      exact kk _ (hlx_5 (n := n + 12) (d := d') hv a1 a62 e1 e2)
    · have hx : x = 6 := Int32.toInt_inj.mp (hx.trans (by decide))
      subst hx
      show lnC h0 L (keepq (tp2 h0) L σ s) _
      obtain ⟨v, h2, hv, e2, kk⟩ := ln_step (keepE hE hsm hb9 hF hL4 x1 hR1 hW d' (n + 13) (by omega) (by omega))
      exact kk _ (hlx_6 (n := n + 12) (d := d') hv a1 a62 e1 e2)
    · have hx : x = 7 := Int32.toInt_inj.mp (hx.trans (by decide))
      subst hx
      show lnC h0 L (wetq (tp2 h0) L σ s) _
      obtain ⟨v, h2, hv, e2, kk⟩ := ln_step (wetE hE hsm hb9 hF hL4 x1 hR1 hW d' (n + 13) (by omega) (by omega))
      exact kk _ (hlx_7 (n := n + 12) (d := d') hv a1 a62 e1 e2)
    · have hx : x = 8 := Int32.toInt_inj.mp (hx.trans (by decide))
      subst hx
      show lnC h0 L (clogq (tp2 h0) L σ s) _
      obtain ⟨v, h2, hv, e2, kk⟩ := ln_step (clogE hE hsm hb9 hF hL4 x1 hR1 d' (n + 13) (by omega) (by omega))
      exact kk _ (hlx_8 (n := n + 12) (d := d') hv a1 a62 e1 e2)
def hdQ (h0 : zH) (L : Nat) (r : hSt ⊕ Nat) (o : Option zR) : Prop := match r with
  | .inl σ => ∃ h', o = some (.inl (some (.int (-1))), h') ∧ bRQ ctb wX h0 0 0 h' ∧ (h'.2.1 1 1).toInt = (L : Int) ∧ RC h' 63 69 σ ∧ WF σ
  | .inr w => ∃ (x : Int32) (h' : zH), o = some (.inl (some (.int x)), h') ∧ x.toInt = (w : Int) ∧ bRQ ctb wX h0 0 0 h' ∧ (h'.2.1 1 1).toInt = (L : Int)
set_option maxRecDepth 100000 in
theorem hreadL (hE : E.1 < 2147483648) (hsm : bSO E ctb B (60, smT)) (hb9 : ∀ i, 0 ≤ tp2 h0 i ∧ tp2 h0 i ≤ 255) (hF : 1000000 ≤ F) (hL4 : L ≤ 400) : ∀ (k i s : Nat) (h : zH) (σ : hSt) (i9 : Int32), k + i = 14 → i9.toInt = (i : Int) → XL h0 L h s → RC h 63 69 σ → WF σ →
    ∀ d f, 66 ≤ d → B + F * 20000 * (k + 1) ≤ f → hdQ h0 L (hsq (tp2 h0) L k σ s) (zex E f d 129 37 [some (.ref 62), some (.ref 1), some (.ref 4), some (.ref 18), some (.int i9)] [] h) := by
  intro k
  induction k with
  | zero =>
    intro i s h σ i9 hk hi hX hR hW d f hd hf
    obtain ⟨n, hn⟩ : ∃ n, f = n + 50 := ⟨f - 50, by omega⟩
    subst hn
    exact ⟨_, h, rd_d (n := n + 44) (d := d) (by rw [hi, int14]; omega) (ha_1 hX.1), hX.2.1.2.2.1, hX.1, hX.2.1.1⟩
  | succ k IH =>
    intro i s h σ i9 hki hi hX hR hW d f hd hf
    have hmul : F * 20000 * (k + 1 + 1) = F * 20000 * (k + 1) + F * 20000 := Nat.mul_succ _ _
    obtain ⟨d', hd'⟩ : ∃ d', d = d' + 1 := ⟨d - 1, by omega⟩
    obtain ⟨n, hn⟩ : ∃ n, f = n + 50 := ⟨f - 50, by omega⟩
    subst hd' hn
    have hi14 : i9.toInt < (14 : Int32).toInt := by rw [hi, int14]; omega
    have a62 := ha_62 hX.1
    unfold hsq
    have key := fun f hf => hlineE hE hsm hb9 hF hL4 hX hR hW d' f (by omega) hf
    cases hl : hlq (tp2 h0) L σ s with
    | inr w =>
      rw [hl] at key
      obtain ⟨h1, e1, r1, t1, t2⟩ := key (n + 40 + 4) (by omega)
      exact ⟨_, h1, rd_e (n := n + 40) (d := d') hi14 a62 (ha_62 r1) e1, t2, r1, t1⟩
    | inl p =>
      obtain ⟨σ', e⟩ := p
      have hW' := hl_wf hW hl
      rw [hl] at key
      have hk2 : ∀ h1, XL h0 L h1 e → (h1.2.1 1 2).toInt = (kK (tp2 h0) L e : Int) := fun h1 x1 => x1.2.1.2.1
      dsimp only
      by_cases hLe : L ≤ e
      · rw [if_pos hLe]
        obtain ⟨h1, e1, x1, R1⟩ := key (n + 38 + 6) (by omega)
        exact ⟨h1, rd_f (n := n + 38) (d := d') hi14 (by rw [hk2 h1 x1, kK_0.mpr hLe]; rfl) a62 (ha_1 x1.1) e1, x1.1, x1.2.1.1, R1, hW'⟩
      · rw [if_neg hLe]
        have hkn : ∀ h1, XL h0 L h1 e → (h1.2.1 1 2).toInt ≠ 0 := fun h1 x1 z => by
          rw [hk2 h1 x1] at z
          exact hLe ((kK_0 (T := tp2 h0)).mp (by omega))
        have sg : ∀ h1, XL h0 L h1 e → ∀ f, zex E (f + 20) d' 183 0 [some (.ref 1), some (.int 59)] [] h1 = some (.inl (some (.int (if sqs (tp2 h0) L e 59 = true then 1 else 0))), h1) := fun h1 x1 f => by
          have hT := wX_2 x1.1
          have := isSgnE (h := h1) (by rw [hT]; exact x1.2.1) hL4 (ha_1 x1.1) (x1.1.2.2.1 2 _ ks2 (by intro z; cases z)) E f d'
          rw [hT] at this
          exact this
        by_cases hs : sqs (tp2 h0) L e 59 = true
        · rw [if_pos hs]
          obtain ⟨h1, e1, x1, R1⟩ := key (n + 32 + 12) (by omega)
          have e2 := sg h1 x1 (n + 32 + 5 - 20)
          rw [if_pos hs] at e2
          obtain ⟨h2, e3, x2, c2⟩ := xadv hE hsm hb9 hF hL4 x1 d' (n + 32 + 2) (by omega) (by omega)
          rw [rd_h (n := n + 32) (d := d') hi14 (hkn h1 x1) a62 (ha_1 x1.1) e1 (by rw [show n + 32 + 5 - 20 + 20 = n + 32 + 5 by omega] at e2; exact e2) e3]
          exact IH (i + 1) (nxt (tp2 h0) L e) h2 σ' (i9 + 1) (by omega) (by rw [i32_add (by rw [hi, int1]; omega) (by rw [hi, int1]; omega), hi, int1]; omega) x2 (RC_S R1 (SM_C c2)) hW' (d' + 1) (n + 32) hd (by omega)
        · rw [if_neg hs]
          obtain ⟨h1, e1, x1, R1⟩ := key (n + 33 + 11) (by omega)
          have e2 := sg h1 x1 (n + 33 + 4 - 20)
          rw [if_neg hs] at e2
          exact ⟨_, h1, rd_g (n := n + 33) (d := d') hi14 (hkn h1 x1) a62 (ha_1 x1.1) e1 (by rw [show n + 33 + 4 - 20 + 20 = n + 33 + 4 by omega] at e2; exact e2), x1.2.1.2.2.1, x1.1, x1.2.1.1⟩
end LX
