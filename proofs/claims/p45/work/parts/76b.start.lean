/-! the start of the loop, and the whole law (wip/zab2/c/g32: by hand out of e47) -/
set_option maxRecDepth 100000 in
theorem PL_0 {h : zH} (r7 : ∀ k, (h.2.1 7 k).toInt = 0) (a0 : (h.2.1 4 0).toInt = 0) (a1 : (h.2.1 4 1).toInt = 0) (a2 : (h.2.1 4 2).toInt = 0) (a3 : (h.2.1 4 3).toInt = 0) (b0 : (h.2.1 85 0).toInt = 0) (b1 : (h.2.1 85 1).toInt = 0) (b2 : (h.2.1 85 2).toInt = 0) (b3 : (h.2.1 85 3).toInt = 0) : ∃ σ, PL h σ := by
  refine ⟨sσ h 18 ((0, 0, 0), [], (fun _ => 0), (fun _ _ => 0), (fun _ => 0), (fun _ => 0), (fun _ => 0), (fun _ => 0)), ⟨⟨a0, a1, a2⟩, fun a _ => ⟨0, r7 a, by decide, fun b _ => by rw [Nat.zero_testBit]; rfl⟩, fun q hq => absurd hq (Nat.not_lt_zero q), fun q hq => absurd hq (Nat.not_lt_zero q), fun _ _ => rfl, fun _ _ => rfl, fun _ _ => rfl, fun _ _ => rfl⟩, ⟨⟨b0, b1, b2⟩, fun i q hi => ?_, fun q hq => absurd hq (Nat.not_lt_zero q)⟩, ⟨Nat.zero_le _, Nat.zero_le _, Nat.zero_le _, rfl, fun q hq => absurd hq List.not_mem_nil, fun p hp => absurd hp (Nat.not_lt_zero p)⟩, Int32.toInt_inj.mp (by rw [a3, b3])⟩
  exact nomatch (show (none : Option (Nat × Nat)) = some q from hi)
noncomputable def avc (h : aHp) (c j v : Nat) : Bool := match aget h.1 c with
  | some (s, t) => cond (zse (some s) (some (.inr (.inr ())))) false (Nat.beq (agI t j) v)
  | none => false
set_option maxRecDepth 100000 in
theorem avc_s {V : Nat → Int32} {G : zH} {ah : aHp} {h : zH} {c j v : Nat} (hh : aHR V G ah h) (e : avc ah c j v = true) (hv : v < 4294967296) : (h.2.1 c j).toInt = (v : Int) - 2147483648 := by
  unfold avc at e
  split at e
  · rename_i s t hz
    cases h1 : zse (some s) (some (.inr (.inr ()))) with
    | true => rw [h1] at e; cases e
    | false =>
      rw [h1, cond_false] at e
      have h2 := (hh.1 c s t hz (fun z => zse_n h1 (congrArg some z))).2 j
      rw [abq e] at h2
      have t := h2.1 hv; omega
  · cases e
noncomputable def stz (h : aHp) (c : Nat) : Bool := match aget h.1 c with
  | some (s, []) => cond (zse (some s) (some (.inr (.inr ())))) false true
  | _ => false
set_option maxRecDepth 100000 in
theorem stz_s {V : Nat → Int32} {G : zH} {ah : aHp} {h : zH} {c : Nat} (hh : aHR V G ah h) (e : stz ah c = true) (k : Nat) : (h.2.1 c k).toInt = 0 := by
  unfold stz at e
  split at e
  · rename_i s hz
    cases h1 : zse (some s) (some (.inr (.inr ()))) with
    | true => rw [h1] at e; cases e
    | false => exact v0 ((hh.1 c s [] hz (fun z => zse_n h1 (congrArg some z))).2 k)
  · cases e
noncomputable def stp5 : aF := fun _ _ fs d mi pc ls st h => match fs, st with
  | [], [] => cond (Nat.beq d 100) (cond (Nat.beq mi 0) (cond (Nat.beq pc 23) (cond (stz h 2) (cond (stz h 90) (cond (stz h 7) (cond (avk h 4 0 && avk h 4 1) (cond (avk h 4 2 && avk h 4 3) (cond (avk h 85 0 && avk h 85 1) (cond (avk h 85 2 && avk h 85 3) (cond (avk h 84 7 && avk h 27 2) (cond (stz h 19) (cond ((List.range 12).all fun r => avk h 85 (15 + 11 * r)) (cond (stz h 20) (cond ((List.range 8).all fun r => avk h 85 (185 + 24 * r)) (cond (avc h 18 12 2147483649) (cond (avc h 85 12 2147483649) (stk ls h) false) false) false) false) false) false) false) false) false) false) false) false) false) false) false) false) false
  | _, _ => false
noncomputable def zrun5 : Bool := zab 2147483648 (fun mi pc => Nat.beq pc 23 && Nat.beq mi 0) stp5 (fun _ => false) sm0 (fun _ _ _ => false) 1000000 1000000 [] [] 100 0 0 als9 [] ah9
set_option maxRecDepth 100000 in
theorem zrun5_ok : zrun5 = true := by decide +kernel
def aV9 (E : zE) (i : Nat) : Int32 := if i < 6 then E.2 i else E.2 0 &&& 63
set_option maxRecDepth 100000 in
theorem stp5_s {E : zE} (hE : E.1 ≤ 3072) {B0 : Nat} (hsm : bSO E ctb B0 (60, smT)) (V : Nat → Int32) : aIH E V zG9 (B0 + tLK * 2 * 513) (t5Q 601024 7293034) stp5 := by
  intro n env afs d mi pc als a ah e cfs ls s h he hf hl hs hh
  unfold stp5 at e
  split at e
  · obtain ⟨e1, e⟩ := acnd e
    obtain ⟨e2, e⟩ := acnd e
    obtain ⟨e3, e⟩ := acnd e
    obtain ⟨e4, e⟩ := acnd e
    obtain ⟨e5, e⟩ := acnd e
    obtain ⟨e6, e⟩ := acnd e
    obtain ⟨e7, e⟩ := acnd e
    obtain ⟨e8, e⟩ := acnd e
    obtain ⟨e9, e⟩ := acnd e
    obtain ⟨e10, e⟩ := acnd e
    obtain ⟨e11, e⟩ := acnd e
    obtain ⟨f0, e⟩ := acnd e
    obtain ⟨f1, e⟩ := acnd e
    obtain ⟨f2, e⟩ := acnd e
    obtain ⟨f3, e⟩ := acnd e
    obtain ⟨f4, e⟩ := acnd e
    obtain ⟨f5, e⟩ := acnd e
    rw [Bool.and_eq_true] at e7 e8 e9 e10 e11
    rw [abq e1, abq e2, abq e3]
    obtain ⟨⟨w5, w6, h1⟩, hI, hP, hT, ⟨z1, z2, z3, z4⟩, c1, c2⟩ := stk_s hl hh e
    cases cfs with
    | cons x y => exact hf.elim
    | nil =>
      cases s with
      | cons x y => exact hs.elim
      | nil =>
        subst h1
        have t2 : ∀ i, tp2 h i = 0 := fun i => stz_s hh e4 i
        have t90 : ∀ i, tp90 h i = 0 := fun i => stz_s hh e5 i
        have px0 : PX h 0 := ⟨PL_0 (fun k => stz_s hh e6 k) (avk_s hh e7.1) (avk_s hh e7.2) (avk_s hh e8.1) (avk_s hh e8.2) (avk_s hh e9.1) (avk_s hh e9.2) (avk_s hh e10.1) (avk_s hh e10.2), fun b hb => by rw [avk_s hh e11.1] at hb; omega, fun z => absurd z (by decide)⟩
        have sx0 : SX h 4 18 85 0 := by
          refine ⟨fun c k m q hc => ?_, fun x0 r hr h0 => ?_, fun q hq => ⟨fun h2 => ⟨fun x0 => ?_, fun x0 => ?_⟩, fun h2 x0 => ?_⟩⟩
          · rw [Nat.zero_add]
            rcases q with ⟨x0, x1, x2, x3⟩ | ⟨x0, x1, x2, x3⟩ | ⟨x0, x1, x2, x3⟩ | ⟨x0, x1, x2, x3⟩ | ⟨x0, x1, x2, x3⟩ | ⟨x0, x1, x2, x3⟩
            · subst x1; subst x3; exact Int32.toInt_inj.mp ((stz_s hh f0 k).trans (avk_s hh (List.all_eq_true.mp f1 k (List.mem_range.mpr x2))).symm)
            · subst x1; subst x3; exact Int32.toInt_inj.mp ((stz_s hh f2 k).trans (avk_s hh (List.all_eq_true.mp f3 k (List.mem_range.mpr x2))).symm)
            · exact (show False from x0).elim
            · exact (show False from x0).elim
            · subst x1; subst x2; subst x3; exact Int32.toInt_inj.mp ((avc_s hh f4 (by decide)).trans (avc_s hh f5 (by decide)).symm)
            · exact (show False from x0).elim
          · exact stz_s hh f0 r
          · exact stz_s hh f2 q
          · exact (show False from x0).elim
          · rw [avk_s hh e8.1] at h2; omega
        exact t4_loop hE hsm 512 0 h 0 0 0 w5 w6 (by omega) (by decide) zi0 ⟨⟨hI, hP, hT, ⟨z1, z2, z3, z4⟩, Nat.zero_le _, Nat.zero_le _, fun i => by rw [t2 i]; exact ⟨by decide, by decide⟩, fun i => by rw [t2 i, t90 i]; rfl⟩, px0, ⟨Int32.toInt_inj.mp (by rw [avk_s hh e11.2, avk_s hh e11.1]), paQ_i hI hP (avk_s hh e11.2), sx0, fun z => absurd z3 z, QP_0 (avk_s hh e11.2)⟩⟩ (by omega) (by omega) 100 (B0 + tLK * 2 * 513 + n) (by decide) (Nat.le_add_right _ _)
  · cases e
set_option maxRecDepth 100000 in
theorem zpure (L : Nat) (xs : Nat → Int32) (hL : L ≤ 3072) : ∃ n h', zex (L, xs) n 100 0 0 (zent 7 [.float 0]) [] zh0 = some (.inl (some (.int 1)), h') ∧ h'.2.2.2.1 ≤ 601024 ∧ h'.2.2.2.2 ≤ 7293034 := by
  obtain ⟨B0, hB⟩ := asm 60
  have hsm := hB (L, xs) (show L ≤ 4000 by omega)
  have hrun : zab 2147483648 (fun mi pc => Nat.beq pc 23 && Nat.beq mi 0) stp5 (fun _ => false) sm0 (fun _ _ _ => false) 1000000 1000000 [] [] 100 0 0 als9 [] ah9 = true := zrun5_ok
  have key := zab_s (E := (L, xs)) (V := aV9 (L, xs)) (G := zG9) (B := B0 + tLK * 2 * 513) (Q := t5Q 601024 7293034) (stp5_s (E := (L, xs)) hL hsm (aV9 (L, xs))) (fun j n d env as ah k q hq ss h _ _ _ e => nomatch (show false = true from e)) ⟨fun i hi => if_pos hi, rfl⟩ (fun z => absurd (abl.mp z) (Nat.lt_irrefl _)) (fun env v w ah h _ _ _ e => nomatch (show false = true from e)) 1000000 1000000 [] [] 100 0 0 als9 [] ah9 hrun [] (zent 7 [.float 0]) [] zG9 (fun i lo hi z => nomatch (show (none : Option (Nat × Nat)) = some (lo, hi) from z)) trivial ⟨⟨_, rfl, rfl⟩, trivial, trivial, trivial, trivial, trivial, trivial, trivial⟩ trivial ⟨fun k s t hk => (nomatch (show (none : Option (zS × aT)) = some (s, t) from hk)), fun k _ => ⟨rfl, rfl⟩, rfl, rfl, rfl, rfl⟩
  obtain ⟨h', g1, g2, g3⟩ := key
  exact ⟨_, h', g1, g2, g3⟩
