/-! THE MACHINE'S WORLD AND THE EVALUATOR'S -/
def zad (ws : va_W) (k a : Nat) : Prop := ∃ e, ws[k]? = some (a, e)
def zExt (ws ws' : va_W) : Prop := ∀ k a, zad ws k a → zad ws' k a
theorem zExt.rf (ws : va_W) : zExt ws ws := fun _ _ h => h
theorem zExt.tr {a b c : va_W} (h1 : zExt a b) (h2 : zExt b c) : zExt a c := fun k x h => h2 k x (h1 k x h)
theorem zExt.set {ws : va_W} {c a : Nat} {e0 e : va_E} (h : ws[c]? = some (a, e0)) : zExt ws (ws.set c (a, e)) := by
  intro k x ⟨e1, h1⟩
  by_cases hk : c = k
  · subst hk
    cases h.symm.trans h1
    exact ⟨e, by rw [List.getElem?_set_self (List.getElem?_eq_some_iff.mp h).1]⟩
  · exact ⟨e1, by rw [List.getElem?_set_ne hk]; exact h1⟩
theorem zExt.app (ws : va_W) (x : Nat × va_E) : zExt ws (ws ++ [x]) := by
  intro k a ⟨e, h⟩
  exact ⟨e, by rw [List.getElem?_append_left (List.getElem?_eq_some_iff.mp h).1]; exact h⟩
def zV (adK : Nat → Nat) (b : Nat) (ws : va_W) : Value → Value → Prop
  | .ref k, rv => ∃ a, zad ws k a ∧ rv = .ref a
  | .retAddr i, rv => rv = .ref (adK i)
  | .float _, rv => rv = .ref b
  | .double _, rv => ∃ q, rv = .ref q
  | .int x, rv => rv = .int x
  | .long x, rv => rv = .long x
  | .null, rv => rv = .null
theorem zV.mono {adK : Nat → Nat} {b : Nat} {ws ws' : va_W} (h : zExt ws ws') {v rv : Value} (hv : zV adK b ws v rv) : zV adK b ws' v rv := by
  cases v with
  | ref k => obtain ⟨a, h1, h2⟩ := hv; exact ⟨a, h k a h1, h2⟩
  | _ => exact hv
def zVs (adK : Nat → Nat) (b : Nat) (ws : va_W) : List Value → List Value → Prop
  | [], rst => rst = []
  | v :: st, rst => ∃ rv rs, rst = rv :: rs ∧ zV adK b ws v rv ∧ zVs adK b ws st rs
theorem zVs.mono {adK : Nat → Nat} {b : Nat} {ws ws' : va_W} (h : zExt ws ws') : ∀ {st rst : List Value}, zVs adK b ws st rst → zVs adK b ws' st rst
  | [], _, hv => hv
  | _ :: _, _, ⟨rv, rs, h1, h2, h3⟩ => ⟨rv, rs, h1, h2.mono h, h3.mono h⟩
theorem zVs.app {adK : Nat → Nat} {b : Nat} {ws : va_W} : ∀ {a r rst : List Value}, zVs adK b ws (a ++ r) rst → ∃ ra rr, rst = ra ++ rr ∧ zVs adK b ws a ra ∧ zVs adK b ws r rr
  | [], _, rst, h => ⟨[], rst, rfl, rfl, h⟩
  | v :: a, r, rst, ⟨rv, rs, h1, h2, h3⟩ => by
    obtain ⟨ra, rr, e1, e2, e3⟩ := zVs.app h3
    exact ⟨rv :: ra, rr, by rw [h1, e1]; rfl, ⟨rv, ra, rfl, h2, e2⟩, e3⟩
theorem zVs.join {adK : Nat → Nat} {b : Nat} {ws : va_W} : ∀ {a r ra rr : List Value}, zVs adK b ws a ra → zVs adK b ws r rr → zVs adK b ws (a ++ r) (ra ++ rr)
  | [], _, _, _, h1, h2 => by cases (show _ = [] from h1); exact h2
  | v :: a, r, _, rr, ⟨rv, rs, h1, h2, h3⟩, h4 => ⟨rv, rs ++ rr, by rw [h1]; rfl, h2, zVs.join h3 h4⟩
theorem zVs.rev {adK : Nat → Nat} {b : Nat} {ws : va_W} : ∀ {a ra : List Value}, zVs adK b ws a ra → zVs adK b ws a.reverse ra.reverse
  | [], _, h => by cases (show _ = [] from h); exact rfl
  | v :: a, _, ⟨rv, rs, h1, h2, h3⟩ => by
    rw [h1, List.reverse_cons, List.reverse_cons]
    exact zVs.join (zVs.rev h3) ⟨rv, [], rfl, h2, rfl⟩
theorem zVs.len {adK : Nat → Nat} {b : Nat} {ws : va_W} : ∀ {a ra : List Value}, zVs adK b ws a ra → ra.length = a.length
  | [], _, h => by cases (show _ = [] from h); rfl
  | v :: a, _, ⟨rv, rs, h1, h2, h3⟩ => by rw [h1, List.length_cons, List.length_cons, zVs.len h3]
theorem zV.cat {adK : Nat → Nat} {b : Nat} {ws : va_W} {v rv : Value} (h : zV adK b ws v rv) : rv.category = zcw v := by
  cases v with
  | ref k => obtain ⟨a, -, rfl⟩ := h; rfl
  | double x => obtain ⟨q, rfl⟩ := h; rfl
  | _ => cases h; rfl
theorem zV.cat1 {adK : Nat → Nat} {b : Nat} {ws : va_W} {v rv : Value} (h : zV adK b ws v rv) (h1 : zc1 v = true) : rv.category = 1 := by
  rw [h.cat]
  cases v <;> first | rfl | cases h1
theorem zVs.cats {adK : Nat → Nat} {b : Nat} {ws : va_W} : ∀ {a ra : List Value}, zVs adK b ws a ra → (ra.map fun v => v.category).sum = zsum a
  | [], _, h => by cases (show _ = [] from h); rfl
  | v :: a, _, ⟨rv, rs, h1, h2, h3⟩ => by
    rw [h1, List.map_cons, List.sum_cons, h2.cat, zVs.cats h3]
    rfl
/-- the locals -/
def zLr (adK : Nat → Nat) (b : Nat) (ws : va_W) (ls : zLs) (lv : List (Nat × Value)) : Prop := ∀ i v, zat ls i = some (some v) → ∃ rv, zV adK b ws v rv ∧ (i, rv) ∈ lv
theorem zLr.mono {adK : Nat → Nat} {b : Nat} {ws ws' : va_W} (h : zExt ws ws') {ls : zLs} {lv : List (Nat × Value)} (hl : zLr adK b ws ls lv) : zLr adK b ws' ls lv := fun i v hi => by
  obtain ⟨rv, h1, h2⟩ := hl i v hi
  exact ⟨rv, h1.mono h, h2⟩
theorem zstl_at : ∀ {ls : zLs} {i j : Nat} {v u : Value}, zat (zstl ls i v) j = some (some u) → (j = i ∧ u = v) ∨ (j ≠ i ∧ zat ls j = some (some u) ∧ (j + 1 = i → ∀ x, u ≠ .long x))
  | [], _, _, _, _, h => by simp [zstl, zat] at h
  | o :: l, 0, 0, v, u, h => by
    simp only [zstl, zat, Option.some.injEq] at h
    exact Or.inl ⟨rfl, h.symm⟩
  | o :: l, 0, j + 1, v, u, h => Or.inr ⟨by omega, h, fun z => by omega⟩
  | o :: l, i + 1, 0, v, u, h => by
    simp only [zstl, zat, Option.some.injEq] at h
    refine Or.inr ⟨by omega, ?_, fun z => ?_⟩
    · cases i with
      | zero =>
        unfold zkl at h
        dsimp only at h
        split at h
        · cases h
        · simp only [zat]; rw [h]
      | succ i =>
        simp only [zkl] at h
        simp only [zat]; rw [h]
    · have : i = 0 := by omega
      subst this
      intro x hx
      subst hx
      unfold zkl at h
      dsimp only at h
      split at h
      · cases h
      · rename_i h9
        exact h9 x h
  | o :: l, i + 1, j + 1, v, u, h => by
    rcases zstl_at (show zat (zstl l i v) j = some (some u) from h) with ⟨h1, h2⟩ | ⟨h1, h2, h3⟩
    · exact Or.inl ⟨by omega, h2⟩
    · exact Or.inr ⟨by omega, h2, fun z => h3 (by omega)⟩
theorem zLr.st {adK : Nat → Nat} {b : Nat} {ws : va_W} {ls : zLs} {lv lv' : List (Nat × Value)} (hl : zLr adK b ws ls lv) {i : Nat} {v rv : Value} (hv : zV adK b ws v rv)
    (he : (i, rv) :: lv.filter (fun q => !(q.1 == i) && !(q.1 + 1 == i && q.2.category == 2)) = lv') : zLr adK b ws (zstl ls i v) lv' := by
  intro j u hj
  rcases zstl_at hj with ⟨rfl, rfl⟩ | ⟨h1, h2, h3⟩
  · exact ⟨rv, hv, by rw [← he]; exact List.mem_cons_self⟩
  · obtain ⟨ru, h4, h5⟩ := hl j u h2
    subst he
    refine ⟨ru, h4, List.mem_cons_of_mem _ (List.mem_filter.mpr ⟨h5, ?_⟩)⟩
    have e1 : (j == i) = false := by simp [h1]
    dsimp only
    rw [e1]
    by_cases h6 : j + 1 = i
    · have h7 := h3 h6
      have h8 : ru.category = 1 := h4.cat1 (by cases u <;> first | rfl | exact absurd rfl (h7 _))
      rw [h8]
      simp
    · have e2 : (j + 1 == i) = false := by simp [h6]
      rw [e2]
      rfl
theorem zLr.stJ {adK : Nat → Nat} {b : Nat} {ws : va_W} {ls : zLs} {lv lv' : List (Nat × Value)} (hl : zLr adK b ws ls lv) {i : Nat} {v rv : Value} (hv : zV adK b ws v rv)
    (he : (i, rv) :: lv.filter (fun q => !(q.1 == i) && (!(q.1 == i + 1) && !(q.1 + 1 == i && q.2.category == 2))) = lv') : zLr adK b ws (zset (zstl ls i v) (i + 1) none) lv' := by
  intro j u hj
  rw [zset_eq, zat_eq] at hj
  by_cases hji : j = i + 1
  · subst hji
    rw [List.getElem?_set] at hj
    simp only [if_true] at hj
    split at hj <;> cases hj
  · rw [List.getElem?_set_ne (fun z => hji z.symm), ← zat_eq] at hj
    rcases zstl_at hj with ⟨rfl, rfl⟩ | ⟨h1, h2, h3⟩
    · exact ⟨rv, hv, by rw [← he]; exact List.mem_cons_self⟩
    · obtain ⟨ru, h4, h5⟩ := hl j u h2
      subst he
      refine ⟨ru, h4, List.mem_cons_of_mem _ (List.mem_filter.mpr ⟨h5, ?_⟩)⟩
      have e1 : (j == i) = false := by simp [h1]
      have e3 : (j == i + 1) = false := by simp [hji]
      dsimp only
      rw [e1, e3]
      by_cases h6 : j + 1 = i
      · have h7 := h3 h6
        have h8 : ru.category = 1 := h4.cat1 (by cases u <;> first | rfl | exact absurd rfl (h7 _))
        rw [h8]
        simp
      · have e2 : (j + 1 == i) = false := by simp [h6]
        rw [e2]
        rfl
def zkind : FieldType → Option (Option Nat) → Bool
  | .int, none => true
  | .boolean, none => true
  | .object _, some _ => true
  | .array _, some _ => true
  | _, _ => false
/-- a cell -/
def zErel (tys : List (ClassId × FieldType)) (ws : va_W) (sh : zS) (vc : Nat → Int32) (wc : Nat → Int64) (e : va_E) : Prop := match sh with
  | .inl (t, n, rf) => ∃ cA, (cA, zaty t) ∈ tys ∧ (match t with
    | 0 => e = .inl (cA, n, .inl vc)
    | 1 => e = .inl (cA, n, .inl vc)
    | 2 => e = .inl (cA, n, .inr (.inl wc))
    | _ => ∃ g, t < 5 ∧ e = .inl (cA, n, .inr (.inr (.inr (.inr g)))) ∧ ∀ j o, zat rf j = some o → match o with
      | none => g j = none
      | some k => ∃ a, zad ws k a ∧ g j = some a)
  | .inr (.inl (ci, sl)) => ∃ fs, e = .inr (ci, fs) ∧ ∀ k o, zat sl k = some o → ∃ rv, fs[k]? = some rv ∧ zkind (zcty ci k) o = true ∧ match o with
    | none => rv = .int (vc k)
    | some none => rv = .null
    | some (some r) => ∃ a, zad ws r a ∧ rv = .ref a
  | .inr (.inr _) => False
theorem zErel.mono {tys tys' : List (ClassId × FieldType)} {ws ws' : va_W} (h : zExt ws ws') (ht : ∀ q ∈ tys, q ∈ tys') {sh : zS} {vc : Nat → Int32} {wc : Nat → Int64} {e : va_E} (he : zErel tys ws sh vc wc e) : zErel tys' ws' sh vc wc e := by
  match sh, he with
  | .inl (0, n, rf), ⟨cA, h1, h2⟩ => exact ⟨cA, ht _ h1, h2⟩
  | .inl (1, n, rf), ⟨cA, h1, h2⟩ => exact ⟨cA, ht _ h1, h2⟩
  | .inl (2, n, rf), ⟨cA, h1, h2⟩ => exact ⟨cA, ht _ h1, h2⟩
  | .inl (t + 3, n, rf), ⟨cA, h1, g, h0, h2, h3⟩ =>
    refine ⟨cA, ht _ h1, g, h0, h2, fun j o hj => ?_⟩
    have h4 := h3 j o hj
    cases o with
    | none => exact h4
    | some k => obtain ⟨a, h5, h6⟩ := h4; exact ⟨a, h k a h5, h6⟩
  | .inr (.inl (ci, sl)), ⟨fs, h1, h2⟩ =>
    refine ⟨fs, h1, fun k o hk => ?_⟩
    obtain ⟨rv, h3, h9, h4⟩ := h2 k o hk
    refine ⟨rv, h3, h9, ?_⟩
    match o, h4 with
    | none, h4 => exact h4
    | some none, h4 => exact h4
    | some (some r), ⟨a, h5, h6⟩ => exact ⟨a, h r a h5, h6⟩
def zRel (tys : List (ClassId × FieldType)) (ws : va_W) (h : zH) : Prop := ws.length = h.1.length ∧ ∀ c sh, zat h.1 c = some sh → ∃ a e, ws[c]? = some (a, e) ∧ zErel tys ws sh (h.2.1 c) (h.2.2.1 c) e
theorem zRel.setI {tys : List (ClassId × FieldType)} {ws : va_W} {h : zH} (hR : zRel tys ws h) {c a : Nat} {e0 e : va_E} {sh : zS} (hc : zat h.1 c = some sh) (hw : ws[c]? = some (a, e0)) {f : Nat → Int32} (he : zErel tys ws sh f (h.2.2.1 c) e) : zRel tys (ws.set c (a, e)) (zsetI h c f) := by
  refine ⟨by rw [List.length_set]; exact hR.1, fun k s' hk => ?_⟩
  have X := zExt.set (e := e) hw
  by_cases hkc : k = c
  · subst hkc
    cases hc.symm.trans (show zat h.1 k = some s' from hk)
    exact ⟨a, e, by rw [List.getElem?_set_self (List.getElem?_eq_some_iff.mp hw).1], by
      show zErel _ _ _ (zrow h.2.1 k f k) _ _
      rw [zrow_at]; exact he.mono X (fun _ z => z)⟩
  · obtain ⟨a', e', h1, h2⟩ := hR.2 k s' hk
    exact ⟨a', e', by rw [List.getElem?_set_ne (fun z => hkc z.symm)]; exact h1, by
      show zErel _ _ _ (zrow h.2.1 c f k) _ _
      rw [zrow_ne _ _ hkc]; exact h2.mono X (fun _ z => z)⟩
theorem zRel.setJ {tys : List (ClassId × FieldType)} {ws : va_W} {h : zH} (hR : zRel tys ws h) {c a : Nat} {e0 e : va_E} {sh : zS} (hc : zat h.1 c = some sh) (hw : ws[c]? = some (a, e0)) {f : Nat → Int64} (he : zErel tys ws sh (h.2.1 c) f e) : zRel tys (ws.set c (a, e)) (zsetJ h c f) := by
  refine ⟨by rw [List.length_set]; exact hR.1, fun k s' hk => ?_⟩
  have X := zExt.set (e := e) hw
  by_cases hkc : k = c
  · subst hkc
    cases hc.symm.trans (show zat h.1 k = some s' from hk)
    exact ⟨a, e, by rw [List.getElem?_set_self (List.getElem?_eq_some_iff.mp hw).1], by
      show zErel _ _ _ _ (zrow h.2.2.1 k f k) _
      rw [zrow_at]; exact he.mono X (fun _ z => z)⟩
  · obtain ⟨a', e', h1, h2⟩ := hR.2 k s' hk
    exact ⟨a', e', by rw [List.getElem?_set_ne (fun z => hkc z.symm)]; exact h1, by
      show zErel _ _ _ _ (zrow h.2.2.1 c f k) _
      rw [zrow_ne _ _ hkc]; exact h2.mono X (fun _ z => z)⟩
theorem zRel.setS {tys : List (ClassId × FieldType)} {ws : va_W} {h : zH} (hR : zRel tys ws h) {c a : Nat} {e0 e : va_E} {sh : zS} (hw : ws[c]? = some (a, e0)) (he : zErel tys ws sh (h.2.1 c) (h.2.2.1 c) e) : zRel tys (ws.set c (a, e)) (zsetS h c sh) := by
  refine ⟨by rw [List.length_set]; show _ = (zset h.1 c sh).length; rw [zset_eq, List.length_set]; exact hR.1, fun k s' hk => ?_⟩
  have X := zExt.set (e := e) hw
  have hk : zat (zset h.1 c sh) k = some s' := hk
  rw [zset_eq, zat_eq] at hk
  by_cases hkc : k = c
  · subst hkc
    have hlt : k < h.1.length := by rw [← hR.1]; exact (List.getElem?_eq_some_iff.mp hw).1
    rw [List.getElem?_set_self hlt] at hk
    cases hk
    exact ⟨a, e, by rw [List.getElem?_set_self (List.getElem?_eq_some_iff.mp hw).1], he.mono X (fun _ z => z)⟩
  · rw [List.getElem?_set_ne (fun z => hkc z.symm), ← zat_eq] at hk
    obtain ⟨a', e', h1, h2⟩ := hR.2 k s' hk
    exact ⟨a', e', by rw [List.getElem?_set_ne (fun z => hkc z.symm)]; exact h1, h2.mono X (fun _ z => z)⟩
theorem zRel.push {tys tys' : List (ClassId × FieldType)} {ws : va_W} {h : zH} (hR : zRel tys ws h) (ht : ∀ q ∈ tys, q ∈ tys') {a n : Nat} {e : va_E} {sh : zS} (he : zErel tys' (ws ++ [(a, e)]) sh (fun _ => 0) (fun _ => 0) e) : zRel tys' (ws ++ [(a, e)]) (zpush h sh n) := by
  refine ⟨by rw [List.length_append]; show _ = (h.1 ++ [sh]).length; rw [List.length_append, hR.1]; rfl, fun k s' hk => ?_⟩
  have X := zExt.app ws (a, e)
  have hk : zat (h.1 ++ [sh]) k = some s' := hk
  rw [zat_eq] at hk
  by_cases hkc : k < h.1.length
  · rw [List.getElem?_append_left hkc, ← zat_eq] at hk
    obtain ⟨a', e', h1, h2⟩ := hR.2 k s' hk
    refine ⟨a', e', by rw [List.getElem?_append_left (by rw [hR.1]; exact hkc)]; exact h1, ?_⟩
    show zErel _ _ _ (zrow h.2.1 h.1.length _ k) (zrow h.2.2.1 h.1.length _ k) _
    rw [zrow_ne _ _ (Nat.ne_of_lt hkc), zrow_ne _ _ (Nat.ne_of_lt hkc)]
    exact h2.mono X ht
  · have hk2 : k = h.1.length := by
      have := (List.getElem?_eq_some_iff.mp hk).1
      rw [List.length_append] at this
      simp at this
      omega
    subst hk2
    rw [List.getElem?_append_right (Nat.le_refl _), Nat.sub_self] at hk
    cases hk
    refine ⟨a, e, by rw [← hR.1, List.getElem?_append_right (Nat.le_refl _), Nat.sub_self]; rfl, ?_⟩
    show zErel _ _ _ (zrow h.2.1 h.1.length _ h.1.length) (zrow h.2.2.1 h.1.length _ h.1.length) _
    rw [zrow_at, zrow_at]
    exact he
