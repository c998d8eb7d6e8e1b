/-! the counters of cells and slots only grow -/
def zleH (h h' : zH) : Prop := h.2.2.2.1 ≤ h'.2.2.2.1 ∧ h.2.2.2.2 ≤ h'.2.2.2.2
theorem zle_refl (h : zH) : zleH h h := ⟨Nat.le_refl _, Nat.le_refl _⟩
theorem zle_trans {a b c : zH} (h1 : zleH a b) (h2 : zleH b c) : zleH a c := ⟨Nat.le_trans h1.1 h2.1, Nat.le_trans h1.2 h2.2⟩
theorem zle_push (h : zH) (s : zS) (n : Nat) : zleH h (zpush h s n) := ⟨Nat.le_succ _, Nat.le_add_right _ _⟩
def zMono (f : zF) : Prop := ∀ d mi pc ls st h r h', f d mi pc ls st h = some (r, h') → zleH h h'
theorem zinv_mono {ih : zF} (IH : zMono ih) {nx : zLs → List Value → zH → Option zR} (hn : ∀ l s h r h', nx l s h = some (r, h') → zleH h h') {d mi pc j : Nat} {tx : Bool} {ls : zLs} {st : List Value} {h h' : zH} {r : Option Value ⊕ Nat} (e : zinv ih nx d mi pc j tx ls st h = some (r, h')) : zleH h h' := by
  obtain ⟨na, mL, stc, ci, rk, kd, as, r1, d', -, -, -, -, -, -, rfl, ⟨v, h1, e1, e2⟩ | ⟨-, -, x, h1, e1, ⟨hs, t, -, -, e2⟩ | ⟨-, e2⟩⟩⟩ := zinv_inv e
  · exact zle_trans (IH _ _ _ _ _ _ _ _ e1) (hn _ _ _ _ _ e2)
  · exact zle_trans (IH _ _ _ _ _ _ _ _ e1) (IH _ _ _ _ _ _ _ _ e2)
  · cases e2
    exact IH _ _ _ _ _ _ _ _ e1
theorem zpri_mono {nx : zLs → List Value → zH → Option zR} (hn : ∀ l s h r h', nx l s h = some (r, h') → zleH h h') {kind : Nat} {ls : zLs} {st : List Value} {h h' : zH} {r : Option Value ⊕ Nat} (e : zpri nx kind ls st h = some (r, h')) : zleH h h' := by
  rcases zpri_inv e with ⟨-, a, r1, -, -, e⟩ | ⟨-, x, y, r1, -, -, e⟩ | ⟨-, x, y, r1, -, -, e⟩ | ⟨-, i, r1, bs, -, -, -, e⟩ | ⟨-, j, i, r1, bs, b, -, -, -, -, -, e⟩ | ⟨-, e⟩
  · exact hn _ _ _ _ _ e
  · exact hn _ _ _ _ _ e
  · exact hn _ _ _ _ _ e
  · exact hn _ _ _ _ _ e
  · exact hn _ _ _ _ _ e
  · obtain ⟨n, dp, b, sp, a, r1, na, ra, nb, rb, -, -, -, -, -, -, -, -, -, e⟩ := zcopy_inv e
    have e := hn _ _ _ _ _ e
    exact e
set_option maxHeartbeats 4000000 in
theorem zins_mono {E : zE} {ih : zF} (IH : zMono ih) {d mi pc : Nat} {ls : zLs} {st : List Value} {h h' : zH} {ln a1 a2 a3 : Nat} {z : Int32} {ins : Instr} {r : Option Value ⊕ Nat} (e : zins E ih d mi pc ls st h ln a1 a2 a3 z ins = some (r, h')) : zleH h h' := by
  have hn : ∀ l s h r h', ih d mi (pc + ln) l s h = some (r, h') → zleH h h' := fun _ _ _ _ _ e => IH _ _ _ _ _ _ _ _ e
  have I : ∀ {p l s h r h'}, ih d mi p l s h = some (r, h') → zleH h h' := fun e => IH _ _ _ _ _ _ _ _ e
  cases ins with
  | aconst_null =>
    exact I e
  | iconst n =>
    exact I e
  | bipush n =>
    exact I e
  | sipush n =>
    exact I e
  | lconst n =>
    exact I e
  | ldc2_w n =>
    exact I e
  | goto n =>
    exact I e
  | ldc n =>
    dsimp only [zins] at e
    split at e
    all_goals first | exact I e | cases e
  | ldc_w n =>
    dsimp only [zins] at e
    split at e
    all_goals first | exact I e | cases e
  | iload i =>
    dsimp only [zins] at e
    obtain ⟨x, -, e⟩ := zldI_inv e
    have e := I e
    exact e
  | iload_n i =>
    dsimp only [zins] at e
    obtain ⟨x, -, e⟩ := zldI_inv e
    have e := I e
    exact e
  | lload i =>
    dsimp only [zins] at e
    obtain ⟨x, -, e⟩ := zldJ_inv e
    have e := I e
    exact e
  | lload_n i =>
    dsimp only [zins] at e
    obtain ⟨x, -, e⟩ := zldJ_inv e
    have e := I e
    exact e
  | aload i =>
    dsimp only [zins] at e
    obtain ⟨v, -, -, e⟩ := zldA_inv e
    exact I e
  | aload_n i =>
    dsimp only [zins] at e
    obtain ⟨v, -, -, e⟩ := zldA_inv e
    exact I e
  | istore i =>
    dsimp only [zins] at e
    obtain ⟨x, r1, -, e⟩ := zstI_inv e
    have e := I e
    exact e
  | istore_n i =>
    dsimp only [zins] at e
    obtain ⟨x, r1, -, e⟩ := zstI_inv e
    have e := I e
    exact e
  | lstore i =>
    dsimp only [zins] at e
    obtain ⟨x, r1, -, e⟩ := zstJ_inv e
    have e := I e
    exact e
  | lstore_n i =>
    dsimp only [zins] at e
    obtain ⟨x, r1, -, e⟩ := zstJ_inv e
    have e := I e
    exact e
  | astore i =>
    dsimp only [zins] at e
    obtain ⟨v, r1, -, -, e⟩ := zstA_inv e
    exact I e
  | astore_n i =>
    dsimp only [zins] at e
    obtain ⟨v, r1, -, -, e⟩ := zstA_inv e
    exact I e
  | iinc i n =>
    dsimp only [zins] at e
    obtain ⟨x, -, e⟩ := zinc_inv e
    exact I e
  | iadd =>
    dsimp only [zins] at e
    obtain ⟨a, b, r1, -, e⟩ := zb2_inv e
    exact I e
  | isub =>
    dsimp only [zins] at e
    obtain ⟨a, b, r1, -, e⟩ := zb2_inv e
    exact I e
  | imul =>
    dsimp only [zins] at e
    obtain ⟨a, b, r1, -, e⟩ := zb2_inv e
    exact I e
  | iand =>
    dsimp only [zins] at e
    obtain ⟨a, b, r1, -, e⟩ := zb2_inv e
    exact I e
  | ior =>
    dsimp only [zins] at e
    obtain ⟨a, b, r1, -, e⟩ := zb2_inv e
    exact I e
  | ixor =>
    dsimp only [zins] at e
    obtain ⟨a, b, r1, -, e⟩ := zb2_inv e
    exact I e
  | ishl =>
    dsimp only [zins] at e
    obtain ⟨a, b, r1, -, e⟩ := zb2_inv e
    exact I e
  | ishr =>
    dsimp only [zins] at e
    obtain ⟨a, b, r1, -, e⟩ := zb2_inv e
    exact I e
  | iushr =>
    dsimp only [zins] at e
    obtain ⟨a, b, r1, -, e⟩ := zb2_inv e
    exact I e
  | ladd =>
    dsimp only [zins] at e
    obtain ⟨a, b, r1, -, e⟩ := zl2_inv e
    exact I e
  | lsub =>
    dsimp only [zins] at e
    obtain ⟨a, b, r1, -, e⟩ := zl2_inv e
    exact I e
  | lmul =>
    dsimp only [zins] at e
    obtain ⟨a, b, r1, -, e⟩ := zl2_inv e
    exact I e
  | land =>
    dsimp only [zins] at e
    obtain ⟨a, b, r1, -, e⟩ := zl2_inv e
    exact I e
  | lor =>
    dsimp only [zins] at e
    obtain ⟨a, b, r1, -, e⟩ := zl2_inv e
    exact I e
  | idiv =>
    dsimp only [zins] at e
    split at e
    · exact I (znz_inv e).2
    · cases e
  | irem =>
    dsimp only [zins] at e
    split at e
    · exact I (znz_inv e).2
    · cases e
  | ldiv =>
    dsimp only [zins] at e
    split at e
    · exact I (znzl_inv e).2
    · cases e
  | lcmp =>
    dsimp only [zins] at e
    split at e
    · exact I e
    · cases e
  | i2l =>
    dsimp only [zins] at e
    split at e
    · exact I e
    · cases e
  | l2i =>
    dsimp only [zins] at e
    split at e
    · exact I e
    · cases e
  | i2b =>
    dsimp only [zins] at e
    split at e
    · exact I e
    · cases e
  | dup =>
    dsimp only [zins] at e
    split at e
    · exact I (zcond e).2
    · cases e
  | dup2 =>
    dsimp only [zins] at e
    split at e
    · exact I (zcond e).2
    · cases e
  | pop =>
    dsimp only [zins] at e
    split at e
    · exact I (zcond e).2
    · cases e
  | ifCond c o =>
    dsimp only [zins] at e
    obtain ⟨x, r1, -, h1, h2⟩ := zif1_inv e
    by_cases hc : zc0 c x
    · exact I (h1 hc)
    · exact I (h2 hc)
  | if_icmp c o =>
    dsimp only [zins] at e
    obtain ⟨x, y, r1, -, h1, h2⟩ := zif2_inv e
    by_cases hc : zcc c x y
    · exact I (h1 hc)
    · exact I (h2 hc)
  | ifnull o =>
    dsimp only [zins] at e
    rcases znul_inv e with ⟨r1, -, e⟩ | ⟨a, r1, -, e⟩
    · exact I e
    · exact I e
  | ifnonnull o =>
    dsimp only [zins] at e
    rcases znul_inv e with ⟨r1, -, e⟩ | ⟨a, r1, -, e⟩
    · exact I e
    · exact I e
  | tableswitch a b c d =>
    dsimp only [zins] at e
    split at e
    · split at e
      · rcases zsw_inv e with ⟨t, -, e⟩ | ⟨-, e⟩
        · exact I e
        · exact I e
      · cases e
    · cases e
  | getfield i =>
    dsimp only [zins] at e
    obtain ⟨a, r1, sl, -, -, ⟨-, e⟩ | ⟨o, -, e⟩⟩ := zget_inv e
    · exact I e
    · exact I e
  | putfield i =>
    dsimp only [zins] at e
    rcases zput_inv e with ⟨y, a, r1, sl, -, -, -, -, e⟩ | ⟨b, a, r1, sl, o, -, -, -, e⟩
    · have e := I e
      exact e
    · have e := I e
      exact e
  | iaload =>
    dsimp only [zins] at e
    rcases zald_inv e with ⟨j, a, r1, n, rf, -, -, -, e⟩ | ⟨j, f, r1, -, -, e⟩
    · exact I e
    · exact I e
  | baload =>
    dsimp only [zins] at e
    obtain ⟨j, a, r1, n, rf, -, -, -, e⟩ := zaldB_inv e
    exact I e
  | laload =>
    dsimp only [zins] at e
    obtain ⟨j, a, r1, n, rf, -, -, -, e⟩ := zaldJ_inv e
    exact I e
  | aaload =>
    dsimp only [zins] at e
    obtain ⟨j, a, r1, t, n, rf, o, -, -, -, -, -, e⟩ := zaldA_inv e
    exact I e
  | iastore =>
    dsimp only [zins] at e
    obtain ⟨x, j, a, r1, n, rf, -, -, -, e⟩ := zast_inv e
    have e := I e
    exact e
  | bastore =>
    dsimp only [zins] at e
    obtain ⟨x, j, a, r1, n, rf, -, -, -, e⟩ := zastB_inv e
    have e := I e
    exact e
  | lastore =>
    dsimp only [zins] at e
    obtain ⟨x, j, a, r1, n, rf, -, -, -, e⟩ := zastJ_inv e
    have e := I e
    exact e
  | aastore =>
    dsimp only [zins] at e
    obtain ⟨b, j, a, r1, c, n, rf, sl, -, -, -, -, e⟩ := zastA_inv e
    have e := I e
    exact e
  | arraylength =>
    dsimp only [zins] at e
    rcases zalen_inv e with ⟨a, r1, t, n, rf, -, -, e⟩ | ⟨f, r1, -, e⟩
    · exact I e
    · exact I e
  | newarray t =>
    dsimp only [zins] at e
    obtain ⟨n, r1, -, -, -, e⟩ := znewa_inv e
    exact zle_trans (zle_push _ _ _) (I e)
  | anewarray t =>
    dsimp only [zins] at e
    obtain ⟨n, r1, -, -, -, e⟩ := znewa_inv e
    exact zle_trans (zle_push _ _ _) (I e)
  | new i =>
    dsimp only [zins] at e
    split at e
    · split at e
      · exact zle_trans (zle_push _ _ _) (I e)
      · cases e
    · have e := (zcond e).2
      cases e
      exact ⟨Nat.le_succ _, Nat.le_add_right _ _⟩
  | invokespecial i =>
    dsimp only [zins] at e
    split at e
    · exact zinv_mono IH hn e
    · exact zpri_mono hn e
  | invokevirtual i =>
    dsimp only [zins] at e
    split at e
    · exact zinv_mono IH hn e
    · exact zpri_mono hn e
  | invokestatic i =>
    dsimp only [zins] at e
    split at e
    · exact zinv_mono IH hn e
    · exact zpri_mono hn e
  | ireturn =>
    dsimp only [zins] at e
    split at e
    · split at e
      · cases e ; exact zle_refl _
      · have e := (zc01_inv e).2; cases e ; exact zle_refl _
      · cases e
    · cases e
  | return_ =>
    dsimp only [zins] at e
    split at e
    · split at e
      · cases e ; exact zle_refl _
      · cases e
    · cases e
  | _ =>
    exact absurd (show (none : Option zR) = some (r, h') from e) (fun z => nomatch z)
theorem zex_mono (E : zE) : ∀ n, zMono (zex E n)
  | 0 => fun _ _ _ _ _ _ _ _ e => nomatch (show (none : Option zR) = _ from e)
  | n + 1 => by
    intro d mi pc ls st h r h' e
    rw [zex_succ] at e
    unfold zbody at e
    split at e
    · cases e
    · exact zins_mono (zex_mono E n) e
theorem zfetch_ok {mi pc : Nat} {zi : ZI} (h : zfetch mi pc = some zi) : ∃ y cc mL q, zat zmn mi = some (y, cc, mL, q) ∧ zichk y.cls y.name cc mL pc zi = true := by
  unfold zfetch at h
  split at h
  · cases h
  · rename_i g hg
    split at h
    · cases h
    · rename_i cs hc
      split at h
      · cases h
      · rename_i l hl
        have h1 := zprog_ok _ _ hg
        have h2 : ∀ (g : List (List (List (Nat × ZI)))) (b i : Nat) (cs : List (List (Nat × ZI))), zgchk b g = true → zat g i = some cs → ∃ y cc mL q, zat zmn (b + i) = some (y, cc, mL, q) ∧ zmchk y.cls y.name cc mL cs = true := by
          intro g
          induction g with
          | nil => intro b i cs _ h; cases i <;> cases h
          | cons a g ih =>
            intro b i cs h1 h2
            simp only [zgchk, Bool.and_eq_true] at h1
            cases i with
            | zero =>
              cases (Option.some.inj (show some a = some cs from h2))
              have h3 := h1.1
              split at h3
              · rename_i y cc mL q hq
                exact ⟨y, cc, mL, q, hq, h3⟩
              · cases h3
            | succ i =>
              obtain ⟨y, cc, mL, q, h4, h5⟩ := ih (b + 1) i cs h1.2 h2
              exact ⟨y, cc, mL, q, by rw [← h4]; congr 1; omega, h5⟩
        obtain ⟨y, cc, mL, q, h3, h4⟩ := h2 g _ _ cs h1 hc
        refine ⟨y, cc, mL, q, by rw [← h3]; congr 1; exact (Nat.div_add_mod mi 16).symm, ?_⟩
        have h5 := List.all_eq_true.mp h4 l (by rw [zat_eq] at hl; exact List.mem_of_getElem? hl)
        have h6 : ∀ (l : List (Nat × ZI)), zlook l pc = some zi → (pc, zi) ∈ l := by
          intro l
          induction l with
          | nil => intro h; cases h
          | cons a l ih =>
            intro h
            obtain ⟨k, z⟩ := a
            unfold zlook at h
            cases hb : Nat.beq k pc with
            | true =>
              rw [hb] at h
              cases (Option.some.inj (show some z = some zi from h))
              rw [zbeq hb]
              exact List.mem_cons_self
            | false =>
              rw [hb] at h
              exact List.mem_cons_of_mem _ (ih h)
        have h5 := List.all_eq_true.mp (show l.all (fun p => zichk y.cls y.name cc mL p.1 p.2) = true from h5)
        have h7 := h5 (pc, zi) (h6 l h)
        exact h7
