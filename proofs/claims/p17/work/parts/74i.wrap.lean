/-! SLaw.house: what it answers (wip/zab2/c/geng20.py) -/
def whQ (h0 : zH) (σ : hSt) (r : hSt ⊕ Nat) (o : Option zR) : Prop := match r with
  | .inr w => ∃ h', o = some (.inl (some (.int 1)), h') ∧ bRQ ctb wX h0 1 6 h' ∧ (h'.2.1 1 1).toInt = 0 ∧ (h'.2.1 0 9).toInt = (w : Int) ∧ RC h' 4 18 σ ∧ h'.2.1 4 3 = h0.2.1 4 3
  | .inl σ' => if 12 ≤ (h0.2.1 4 3).toInt then ∃ h', o = some (.inl (some (.int 2)), h') ∧ bRQ ctb wX h0 1 6 h' ∧ (h'.2.1 1 1).toInt = 0 ∧ (h'.2.1 0 9).toInt = -1 ∧ RC h' 4 18 σ ∧ h'.2.1 4 3 = h0.2.1 4 3
    else ∃ h', o = some (.inl (some (.int 0)), h') ∧ bRQ ctb wX h0 1 6 h' ∧ (h'.2.2.1 94 0).toInt = (h0.2.1 4 3).toInt + 1 ∧ (h'.2.1 1 1).toInt = 0 ∧ (h'.2.1 0 9).toInt = -1 ∧ RC h' 4 18 σ' ∧ WF σ' ∧ (h'.2.1 4 3).toInt = (h0.2.1 4 3).toInt + 1 ∧ (h'.2.1 27 2).toInt = 0
section HW
variable {E : zE} {B F : Nat} {h0 : zH} {L : Nat} {σ : hSt}
set_option maxRecDepth 100000 in
theorem whouseE (hE : E.1 < 2147483648) (hsm : bSO E ctb B (60, smT)) (hb9 : ∀ i, 0 ≤ tp2 h0 i ∧ tp2 h0 i ≤ 255) (hF : 1000000 ≤ F) (hL4 : L ≤ 400) (hI : bHI h0) (hP : bPS h0) (hT : bTB ctb h0.1) (p1 : (h0.2.1 1 1).toInt = (L : Int)) (hR : RC h0 4 18 σ) (hW : WF σ) {u2 : Option Value} :
    ∀ d f, 69 ≤ d → B + F * 20000 * 18 ≤ f → whQ h0 σ (houseq (tp2 h0) L σ) (zex E f d 1 0 [some (.ref 0), some (.ref 94), u2] [] h0) := by
  intro d f hd hf
  obtain ⟨d', hd'⟩ : ∃ d', d = d' + 1 := ⟨d - 1, by omega⟩
  obtain ⟨n, hn⟩ : ∃ n, f = n + 20 := ⟨f - 20, by omega⟩
  subst hd' hn
  have a0 := hT 0 _ ks0 (by intro z; cases z)
  have key := fun f hf => shouseE hE hsm hb9 hF hL4 hI hP hT p1 hR hW d' f (by omega) hf
  cases hl : houseq (tp2 h0) L σ with
  | inr w =>
    rw [hl] at key
    obtain ⟨h1, e1, k⟩ := key (n + 16) (by omega)
    exact ⟨h1, hw_1 (n := n + 13) (d := d') a0 e1, k⟩
  | inl σ' =>
    rw [hl] at key
    unfold shQ at key
    unfold whQ
    dsimp only at key ⊢
    by_cases h12 : 12 ≤ (h0.2.1 4 3).toInt
    · rw [if_pos h12]
      have key := key (n + 16) (by omega)
      rw [if_pos h12] at key
      obtain ⟨h1, e1, k⟩ := key
      exact ⟨h1, hw_2 (n := n + 13) (d := d') a0 e1, k⟩
    · rw [if_neg h12]
      have key := key (n + 16) (by omega)
      rw [if_neg h12] at key
      obtain ⟨x, h1, e1, x1, r1, k1, k2, k3, k4, k5, k6⟩ := key
      refine ⟨_, hw_0 (n := n + 11) (d := d') a0 (r1.2.2.1 94 _ ks94 (by intro z; cases z)) e1, bRQ_J (bRQ_ab r1 (by decide) (by decide)), ?_, k1, k2, k3, k4, ?_, k6⟩
      · show (zrow h1.2.2.1 94 (vp_updL (h1.2.2.1 94) 0 x.toInt64) 94 0).toInt = _
        rw [zrow_at]
        show (x.toInt64).toInt = _
        rw [Int32.toInt_toInt64]
        exact x1
      · show (h1.2.1 4 3).toInt = _
        rw [k5]; exact x1
end HW
