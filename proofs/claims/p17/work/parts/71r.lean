/-! the model's methods leave rows of longs as they are (wip/zab2/c/genlg.py) -/
def zlg (h h' : zH) : Prop := h.1.length ≤ h'.1.length ∧ ∀ c, c < h.1.length → h'.2.2.1 c = h.2.2.1 c
set_option maxRecDepth 100000 in
theorem zlg_refl (h : zH) : zlg h h := ⟨Nat.le_refl _, fun _ _ => rfl⟩
set_option maxRecDepth 100000 in
theorem zlg_trans {a b c : zH} (h1 : zlg a b) (h2 : zlg b c) : zlg a c := ⟨Nat.le_trans h1.1 h2.1, fun k hk => (h2.2 k (Nat.lt_of_lt_of_le hk h1.1)).trans (h1.2 k hk)⟩
set_option maxRecDepth 100000 in
theorem zlg_push (h : zH) (s : zS) (n : Nat) : zlg h (zpush h s n) := by
  refine ⟨?_, fun c hc => ?_⟩
  · show h.1.length ≤ (h.1 ++ [s]).length
    rw [List.length_append]
    exact Nat.le_add_right _ _
  · show zrow h.2.2.1 h.1.length (fun _ => 0) c = _
    exact zrow_ne _ _ (Nat.ne_of_lt hc)
set_option maxRecDepth 100000 in
theorem zlg_S {h h' : zH} {a : Nat} {s : zS} (e : zlg (zsetS h a s) h') : zlg h h' := by
  have hl : (zsetS h a s).1.length = h.1.length := by
    show (zset h.1 a s).length = _
    rw [zset_eq, List.length_set]
  exact ⟨by rw [← hl]; exact e.1, fun c hc => e.2 c (by rw [hl]; exact hc)⟩
def okI : Instr → Nat → Nat → Bool
  | .lastore, _, _ => false
  | .invokespecial _, 0, j => Nat.ble 208 j
  | .invokevirtual _, 0, j => Nat.ble 208 j
  | .invokestatic _, 0, j => Nat.ble 208 j
  | _, _, _ => true
def zLg (f : zF) : Prop := ∀ d mi pc ls st h r h', 208 ≤ mi → f d mi pc ls st h = some (r, h') → zlg h h'
set_option maxRecDepth 100000 in
theorem zinv_lg {ih : zF} (IH : zLg ih) {nx : zLs → List Value → zH → Option zR} (hn : ∀ l s h r h', nx l s h = some (r, h') → zlg h h') {d mi pc j : Nat} {tx : Bool} {ls : zLs} {st : List Value} {h h' : zH} {r : Option Value ⊕ Nat} (hm : 208 ≤ mi) (hj : 208 ≤ j) (e : zinv ih nx d mi pc j tx ls st h = some (r, h')) : zlg h h' := by
  obtain ⟨na, mL, stc, ci, rk, kd, as, r1, d', -, -, -, -, -, -, rfl, ⟨v, h1, e1, e2⟩ | ⟨-, -, x, h1, e1, ⟨hs, t, -, -, e2⟩ | ⟨-, e2⟩⟩⟩ := zinv_inv e
  · exact zlg_trans (IH _ _ _ _ _ _ _ _ hj e1) (hn _ _ _ _ _ e2)
  · exact zlg_trans (IH _ _ _ _ _ _ _ _ hj e1) (IH _ _ _ _ _ _ _ _ hm e2)
  · cases e2
    exact IH _ _ _ _ _ _ _ _ hj e1
set_option maxRecDepth 100000 in
theorem zpri_lg {nx : zLs → List Value → zH → Option zR} (hn : ∀ l s h r h', nx l s h = some (r, h') → zlg h h') {kind : Nat} {ls : zLs} {st : List Value} {h h' : zH} {r : Option Value ⊕ Nat} (e : zpri nx kind ls st h = some (r, h')) : zlg h h' := by
  rcases zpri_inv e with ⟨-, a, r1, -, -, e⟩ | ⟨-, x, y, r1, -, -, e⟩ | ⟨-, x, y, r1, -, -, e⟩ | ⟨-, i, r1, bs, -, -, -, e⟩ | ⟨-, j, i, r1, bs, b, -, -, -, -, -, e⟩ | ⟨-, e⟩
  · exact hn _ _ _ _ _ e
  · exact hn _ _ _ _ _ e
  · exact hn _ _ _ _ _ e
  · exact hn _ _ _ _ _ e
  · exact hn _ _ _ _ _ e
  · obtain ⟨n, dp, b, sp, a, r1, na, ra, nb, rb, -, -, -, -, -, -, -, -, -, e⟩ := zcopy_inv e
    have e := hn _ _ _ _ _ e
    exact e
set_option maxHeartbeats 4000000 in
set_option maxRecDepth 100000 in
theorem zins_lg {E : zE} {ih : zF} (IH : zLg ih) {d mi pc : Nat} {ls : zLs} {st : List Value} {h h' : zH} {ln a1 a2 a3 : Nat} {z : Int32} {ins : Instr} {r : Option Value ⊕ Nat} (hm : 208 ≤ mi) (hk : okI ins a1 a2 = true) (e : zins E ih d mi pc ls st h ln a1 a2 a3 z ins = some (r, h')) : zlg h h' := by
  have hn : ∀ l s h r h', ih d mi (pc + ln) l s h = some (r, h') → zlg h h' := fun _ _ _ _ _ e => IH _ _ _ _ _ _ _ _ hm e
  have I : ∀ {p l s h r h'}, ih d mi p l s h = some (r, h') → zlg h h' := fun e => IH _ _ _ _ _ _ _ _ hm e
  cases ins with
  | aconst_null =>
    exact I e
  | iconst n =>
    exact I e
  | bipush n =>
    exact I e
  | sipush n =>
    exact I e
  | lconst n =>
    exact I e
  | ldc2_w n =>
    exact I e
  | goto n =>
    exact I e
  | ldc n =>
    dsimp only [zins] at e
    split at e
    all_goals first | exact I e | cases e
  | ldc_w n =>
    dsimp only [zins] at e
    split at e
    all_goals first | exact I e | cases e
  | iload i =>
    dsimp only [zins] at e
    obtain ⟨x, -, e⟩ := zldI_inv e
    have e := I e
    exact e
  | iload_n i =>
    dsimp only [zins] at e
    obtain ⟨x, -, e⟩ := zldI_inv e
    have e := I e
    exact e
  | lload i =>
    dsimp only [zins] at e
    obtain ⟨x, -, e⟩ := zldJ_inv e
    have e := I e
    exact e
  | lload_n i =>
    dsimp only [zins] at e
    obtain ⟨x, -, e⟩ := zldJ_inv e
    have e := I e
    exact e
  | aload i =>
    dsimp only [zins] at e
    obtain ⟨v, -, -, e⟩ := zldA_inv e
    exact I e
  | aload_n i =>
    dsimp only [zins] at e
    obtain ⟨v, -, -, e⟩ := zldA_inv e
    exact I e
  | istore i =>
    dsimp only [zins] at e
    obtain ⟨x, r1, -, e⟩ := zstI_inv e
    have e := I e
    exact e
  | istore_n i =>
    dsimp only [zins] at e
    obtain ⟨x, r1, -, e⟩ := zstI_inv e
    have e := I e
    exact e
  | lstore i =>
    dsimp only [zins] at e
    obtain ⟨x, r1, -, e⟩ := zstJ_inv e
    have e := I e
    exact e
  | lstore_n i =>
    dsimp only [zins] at e
    obtain ⟨x, r1, -, e⟩ := zstJ_inv e
    have e := I e
    exact e
  | astore i =>
    dsimp only [zins] at e
    obtain ⟨v, r1, -, -, e⟩ := zstA_inv e
    exact I e
  | astore_n i =>
    dsimp only [zins] at e
    obtain ⟨v, r1, -, -, e⟩ := zstA_inv e
    exact I e
  | iinc i n =>
    dsimp only [zins] at e
    obtain ⟨x, -, e⟩ := zinc_inv e
    exact I e
  | iadd =>
    dsimp only [zins] at e
    obtain ⟨a, b, r1, -, e⟩ := zb2_inv e
    exact I e
  | isub =>
    dsimp only [zins] at e
    obtain ⟨a, b, r1, -, e⟩ := zb2_inv e
    exact I e
  | imul =>
    dsimp only [zins] at e
    obtain ⟨a, b, r1, -, e⟩ := zb2_inv e
    exact I e
  | iand =>
    dsimp only [zins] at e
    obtain ⟨a, b, r1, -, e⟩ := zb2_inv e
    exact I e
  | ior =>
    dsimp only [zins] at e
    obtain ⟨a, b, r1, -, e⟩ := zb2_inv e
    exact I e
  | ixor =>
    dsimp only [zins] at e
    obtain ⟨a, b, r1, -, e⟩ := zb2_inv e
    exact I e
  | ishl =>
    dsimp only [zins] at e
    obtain ⟨a, b, r1, -, e⟩ := zb2_inv e
    exact I e
  | ishr =>
    dsimp only [zins] at e
    obtain ⟨a, b, r1, -, e⟩ := zb2_inv e
    exact I e
  | iushr =>
    dsimp only [zins] at e
    obtain ⟨a, b, r1, -, e⟩ := zb2_inv e
    exact I e
  | ladd =>
    dsimp only [zins] at e
    obtain ⟨a, b, r1, -, e⟩ := zl2_inv e
    exact I e
  | lsub =>
    dsimp only [zins] at e
    obtain ⟨a, b, r1, -, e⟩ := zl2_inv e
    exact I e
  | lmul =>
    dsimp only [zins] at e
    obtain ⟨a, b, r1, -, e⟩ := zl2_inv e
    exact I e
  | land =>
    dsimp only [zins] at e
    obtain ⟨a, b, r1, -, e⟩ := zl2_inv e
    exact I e
  | lor =>
    dsimp only [zins] at e
    obtain ⟨a, b, r1, -, e⟩ := zl2_inv e
    exact I e
  | idiv =>
    dsimp only [zins] at e
    split at e
    · exact I (znz_inv e).2
    · cases e
  | irem =>
    dsimp only [zins] at e
    split at e
    · exact I (znz_inv e).2
    · cases e
  | ldiv =>
    dsimp only [zins] at e
    split at e
    · exact I (znzl_inv e).2
    · cases e
  | lcmp =>
    dsimp only [zins] at e
    split at e
    · exact I e
    · cases e
  | i2l =>
    dsimp only [zins] at e
    split at e
    · exact I e
    · cases e
  | l2i =>
    dsimp only [zins] at e
    split at e
    · exact I e
    · cases e
  | i2b =>
    dsimp only [zins] at e
    split at e
    · exact I e
    · cases e
  | dup =>
    dsimp only [zins] at e
    split at e
    · exact I (zcond e).2
    · cases e
  | dup2 =>
    dsimp only [zins] at e
    split at e
    · exact I (zcond e).2
    · cases e
  | pop =>
    dsimp only [zins] at e
    split at e
    · exact I (zcond e).2
    · cases e
  | ifCond c o =>
    dsimp only [zins] at e
    obtain ⟨x, r1, -, h1, h2⟩ := zif1_inv e
    by_cases hc : zc0 c x
    · exact I (h1 hc)
    · exact I (h2 hc)
  | if_icmp c o =>
    dsimp only [zins] at e
    obtain ⟨x, y, r1, -, h1, h2⟩ := zif2_inv e
    by_cases hc : zcc c x y
    · exact I (h1 hc)
    · exact I (h2 hc)
  | ifnull o =>
    dsimp only [zins] at e
    rcases znul_inv e with ⟨r1, -, e⟩ | ⟨a, r1, -, e⟩
    · exact I e
    · exact I e
  | ifnonnull o =>
    dsimp only [zins] at e
    rcases znul_inv e with ⟨r1, -, e⟩ | ⟨a, r1, -, e⟩
    · exact I e
    · exact I e
  | tableswitch a b c d =>
    dsimp only [zins] at e
    split at e
    · split at e
      · rcases zsw_inv e with ⟨t, -, e⟩ | ⟨-, e⟩
        · exact I e
        · exact I e
      · cases e
    · cases e
  | getfield i =>
    dsimp only [zins] at e
    obtain ⟨a, r1, sl, -, -, ⟨-, e⟩ | ⟨o, -, e⟩⟩ := zget_inv e
    · exact I e
    · exact I e
  | putfield i =>
    dsimp only [zins] at e
    rcases zput_inv e with ⟨y, a, r1, sl, -, -, -, -, e⟩ | ⟨b, a, r1, sl, o, -, -, -, e⟩
    · have e := I e
      exact e
    · exact zlg_S (I e)
  | iaload =>
    dsimp only [zins] at e
    rcases zald_inv e with ⟨j, a, r1, n, rf, -, -, -, e⟩ | ⟨j, f, r1, -, -, e⟩
    · exact I e
    · exact I e
  | baload =>
    dsimp only [zins] at e
    obtain ⟨j, a, r1, n, rf, -, -, -, e⟩ := zaldB_inv e
    exact I e
  | laload =>
    dsimp only [zins] at e
    obtain ⟨j, a, r1, n, rf, -, -, -, e⟩ := zaldJ_inv e
    exact I e
  | aaload =>
    dsimp only [zins] at e
    obtain ⟨j, a, r1, t, n, rf, o, -, -, -, -, -, e⟩ := zaldA_inv e
    exact I e
  | lastore =>
    exact nomatch (show false = true from hk)
  | iastore =>
    dsimp only [zins] at e
    obtain ⟨x, j, a, r1, n, rf, -, -, -, e⟩ := zast_inv e
    have e := I e
    exact e
  | bastore =>
    dsimp only [zins] at e
    obtain ⟨x, j, a, r1, n, rf, -, -, -, e⟩ := zastB_inv e
    have e := I e
    exact e
  | aastore =>
    dsimp only [zins] at e
    obtain ⟨b, j, a, r1, c, n, rf, sl, -, -, -, -, e⟩ := zastA_inv e
    exact zlg_S (I e)
  | arraylength =>
    dsimp only [zins] at e
    rcases zalen_inv e with ⟨a, r1, t, n, rf, -, -, e⟩ | ⟨f, r1, -, e⟩
    · exact I e
    · exact I e
  | newarray t =>
    dsimp only [zins] at e
    obtain ⟨n, r1, -, -, -, e⟩ := znewa_inv e
    exact zlg_trans (zlg_push _ _ _) (I e)
  | anewarray t =>
    dsimp only [zins] at e
    obtain ⟨n, r1, -, -, -, e⟩ := znewa_inv e
    exact zlg_trans (zlg_push _ _ _) (I e)
  | new i =>
    dsimp only [zins] at e
    split at e
    · split at e
      · exact zlg_trans (zlg_push _ _ _) (I e)
      · cases e
    · have e := (zcond e).2
      cases e
      exact ⟨Nat.le_refl _, fun _ _ => rfl⟩
  | invokespecial i =>
    dsimp only [zins] at e
    cases a1 with
    | zero => exact zinv_lg IH hn hm (Nat.le_of_ble_eq_true hk) e
    | succ m => exact zpri_lg hn e
  | invokevirtual i =>
    dsimp only [zins] at e
    cases a1 with
    | zero => exact zinv_lg IH hn hm (Nat.le_of_ble_eq_true hk) e
    | succ m => exact zpri_lg hn e
  | invokestatic i =>
    dsimp only [zins] at e
    cases a1 with
    | zero => exact zinv_lg IH hn hm (Nat.le_of_ble_eq_true hk) e
    | succ m => exact zpri_lg hn e
  | ireturn =>
    dsimp only [zins] at e
    split at e
    · split at e
      · cases e ; exact zlg_refl _
      · have e := (zc01_inv e).2; cases e ; exact zlg_refl _
      · cases e
    · cases e
  | return_ =>
    dsimp only [zins] at e
    split at e
    · split at e
      · cases e ; exact zlg_refl _
      · cases e
    · cases e
  | _ =>
    exact absurd (show (none : Option zR) = some (r, h') from e) (fun z => nomatch z)
def zpM : List (List (List (List (Nat × ZI)))) := [zg13, zg14, zg15, zg16, zg17, zg18, zg19, zg20, zg21]
def okL (l : List (Nat × ZI)) : Bool := l.all fun q => okI q.2.1 q.2.2.2.1.1 q.2.2.2.1.2.1
set_option maxRecDepth 100000 in
theorem zpM_ok : zpM.all (fun g => g.all fun cs => cs.all okL) = true := by decide +kernel
set_option maxRecDepth 100000 in
theorem zpM_at (i : Nat) : zat zprog (i + 13) = zat zpM i := rfl
set_option maxRecDepth 100000 in
theorem zlook_m {l : List (Nat × ZI)} {pc : Nat} {zi : ZI} : zlook l pc = some zi → ∃ k, (k, zi) ∈ l := by
  induction l with
  | nil => intro h; cases h
  | cons a l ih =>
    intro h
    obtain ⟨k, z⟩ := a
    unfold zlook at h
    cases hb : Nat.beq k pc with
    | true =>
      rw [hb] at h
      cases (Option.some.inj (show some z = some zi from h))
      exact ⟨k, List.mem_cons_self⟩
    | false =>
      rw [hb] at h
      obtain ⟨k2, h2⟩ := ih h
      exact ⟨k2, List.mem_cons_of_mem _ h2⟩
set_option maxRecDepth 100000 in
theorem okI_f {mi pc ln a1 a2 a3 w : Nat} {z : Int32} {ins : Instr} (hm : 208 ≤ mi) (h : zfetch mi pc = some (ins, ln, (a1, a2, a3), z, w)) : okI ins a1 a2 = true := by
  unfold zfetch at h
  split at h
  · cases h
  · rename_i g hg
    rw [show mi / 16 = (mi / 16 - 13) + 13 by omega, zpM_at] at hg
    split at h
    · cases h
    · rename_i cs hc
      split at h
      · cases h
      · rename_i l hl
        obtain ⟨k, hk⟩ := zlook_m h
        have h1 := List.all_eq_true.mp zpM_ok g (zat_mem hg)
        have h2 := List.all_eq_true.mp h1 cs (zat_mem hc)
        have h3 := List.all_eq_true.mp h2 l (zat_mem hl)
        unfold okL at h3
        exact List.all_eq_true.mp h3 _ hk
set_option maxRecDepth 100000 in
theorem zex_lg (E : zE) : ∀ n, zLg (zex E n)
  | 0 => fun _ _ _ _ _ _ _ _ _ e => nomatch (show (none : Option zR) = _ from e)
  | n + 1 => by
    intro d mi pc ls st h r h' hm e
    rw [zex_succ] at e
    unfold zbody at e
    split at e
    · cases e
    · rename_i hf
      exact zins_lg (zex_lg E n) hm (okI_f hm hf) e
