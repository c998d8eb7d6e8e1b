def aV9 (E : zE) (i : Nat) : Int32 := if i < 6 then E.2 i else E.2 0 &&& 63
def zQ9 (o : Option zR) : Prop := ∃ h, o = some (.inl (some (.int 1)), h) ∧ h.2.2.2.1 ≤ 601024 ∧ h.2.2.2.2 ≤ 7293034
set_option maxRecDepth 100000 in
theorem stp_s {E : zE} (hE : E.1 ≤ 3072) {B0 : Nat} (hsm : bSO E ctb B0 (60, smT)) (V : Nat → Int32) : aIH E V zG9 (B0 + 1000000 * 3073) zQ9 stp := by
  intro n env afs d mi pc als a ah e cfs ls s h he hf hl hs hh
  unfold stp at e
  split at e
  · obtain ⟨e1, e⟩ := acnd e
    obtain ⟨e2, e⟩ := acnd e
    obtain ⟨e3, e⟩ := acnd e
    rw [abq e1, abq e2, abq e3]
    obtain ⟨⟨w5, w6, h1⟩, hI, hP, hT, ⟨z1, z2, z3, z4⟩, c1, c2⟩ := stk_s hl hh e
    cases cfs with
    | cons x y => exact hf.elim
    | nil =>
      cases s with
      | cons x y => exact hs.elim
      | nil =>
        subst h1
        obtain ⟨h', g1, g2, g3⟩ := lw_all hE hsm hI hP hT z1 z2 z3 z4 (w5 := w5) (w6 := w6) 100 (B0 + 1000000 * 3073 + n) (by decide) (Nat.le_add_right _ _)
        exact ⟨h', g1, by omega, by omega⟩
  · cases e
set_option maxRecDepth 100000 in
theorem zpure (L : Nat) (xs : Nat → Int32) (hL : L ≤ 3072) : ∃ n h', zex (L, xs) n 100 0 0 (zent 7 [.float 0]) [] zh0 = some (.inl (some (.int 1)), h') ∧ h'.2.2.2.1 ≤ 601024 ∧ h'.2.2.2.2 ≤ 7293034 := by
  obtain ⟨B0, hB⟩ := asm 60
  have hsm := hB (L, xs) (show L ≤ 4000 by omega)
  have hrun : zab 2147483648 (fun mi pc => Nat.beq pc 23 && Nat.beq mi 0) stp (fun _ => false) sm0 (fun _ _ _ => false) 1000000 1000000 [] [] 100 0 0 als9 [] ah9 = true := zrun9_ok
  have key := zab_s (E := (L, xs)) (V := aV9 (L, xs)) (G := zG9) (B := B0 + 1000000 * 3073) (Q := zQ9) (stp_s (E := (L, xs)) hL hsm (aV9 (L, xs))) (fun j n d env as ah k q hq ss h _ _ _ e => nomatch (show false = true from e)) ⟨fun i hi => if_pos hi, rfl⟩ (fun z => absurd (abl.mp z) (Nat.lt_irrefl _)) (fun env v w ah h _ _ _ e => nomatch (show false = true from e)) 1000000 1000000 [] [] 100 0 0 als9 [] ah9 hrun [] (zent 7 [.float 0]) [] zG9 (fun i lo hi z => nomatch (show (none : Option (Nat × Nat)) = some (lo, hi) from z)) trivial ⟨⟨_, rfl, rfl⟩, trivial, trivial, trivial, trivial, trivial, trivial, trivial⟩ trivial ⟨fun k s t hk => (nomatch (show (none : Option (zS × aT)) = some (s, t) from hk)), fun k _ => ⟨rfl, rfl⟩, rfl, rfl, rfl, rfl⟩
  obtain ⟨h', g1, g2, g3⟩ := key
  exact ⟨_, h', g1, g2, g3⟩
