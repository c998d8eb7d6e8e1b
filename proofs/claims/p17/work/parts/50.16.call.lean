/-! CALLS, ENDS, THROWS -/
theorem zlg_len : ∀ {vs : List Value}, (∀ v ∈ vs, v.category = 1) → (lg_sl vs).length = vs.length
  | [], _ => rfl
  | v :: vs, h => by
    have h1 : v.category = 1 := h v List.mem_cons_self
    have h2 := zlg_len (vs := vs) (fun w hw => h w (List.mem_cons_of_mem _ hw))
    unfold lg_sl at h2 ⊢
    rw [List.flatMap_cons, List.length_append, h2, h1]
    simp
    omega
theorem zargs_mem : ∀ {vs : List Value} {k n : Nat} {v : Value}, (∀ v ∈ vs, v.category = 1) → vs[k]? = some v → (n + k, v) ∈ lv_args n vs
  | [], _, _, _, _, h => by simp at h
  | w :: vs, 0, n, v, _, h => by
    cases (Option.some.inj h)
    exact List.mem_cons_self
  | w :: vs, k + 1, n, v, hc, h => by
    have h1 : w.category = 1 := hc w List.mem_cons_self
    have h2 := zargs_mem (vs := vs) (k := k) (n := n + 1) (fun w hw => hc w (List.mem_cons_of_mem _ hw)) (show vs[k]? = some v from h)
    unfold lv_args
    rw [h1]
    refine List.mem_cons_of_mem _ ?_
    rw [show n + (k + 1) = n + 1 + k by omega]
    exact h2
theorem zVs.get {adK : Nat → Nat} {b : Nat} {ws : va_W} : ∀ {as ras : List Value} {k : Nat} {v : Value}, zVs adK b ws as ras → as[k]? = some v → ∃ rv, ras[k]? = some rv ∧ zV adK b ws v rv
  | [], _, _, _, _, h => by simp at h
  | a :: as, _, 0, v, ⟨rv, rs, e, h1, h2⟩, h => by
    cases (Option.some.inj h)
    exact ⟨rv, by rw [e]; rfl, h1⟩
  | a :: as, _, k + 1, v, ⟨rv, rs, e, h1, h2⟩, h => by
    obtain ⟨rv', h3, h4⟩ := zVs.get h2 (show as[k]? = some v from h)
    exact ⟨rv', by rw [e]; exact h3, h4⟩
theorem zVs.all1 {adK : Nat → Nat} {b : Nat} {ws : va_W} : ∀ {as ras : List Value}, zVs adK b ws as ras → as.all zc1 = true → ∀ v ∈ ras, v.category = 1
  | [], _, h, _ => by cases (show _ = [] from h); exact fun _ h => absurd h List.not_mem_nil
  | a :: as, _, ⟨rv, rs, e, h1, h2⟩, h => by
    rw [List.all_cons, Bool.and_eq_true] at h
    rw [e]
    intro v hv
    rcases List.mem_cons.mp hv with rfl | hv
    · exact h1.cat1 h.1
    · exact zVs.all1 h2 h.2 v hv
theorem zLr.entry {adK : Nat → Nat} {b : Nat} {ws : va_W} {as ras : List Value} {n : Nat} (h : zVs adK b ws as ras) (h1 : as.all zc1 = true) : zLr adK b ws (zent n as) (lv_args 0 ras) := by
  intro i v hi
  rw [zat_eq] at hi
  unfold zent at hi
  have hlt : i < as.length := by
    by_cases hlt : i < as.length
    · exact hlt
    · rw [List.getElem?_append_right (by rw [List.length_map]; omega)] at hi
      obtain ⟨h7, h8⟩ := List.getElem?_eq_some_iff.mp hi
      rw [List.getElem_replicate] at h8
      cases h8
  rw [List.getElem?_append_left (by rw [List.length_map]; exact hlt), List.getElem?_map, Option.map_eq_some_iff] at hi
  obtain ⟨v', h2, h3⟩ := hi
  cases h3
  obtain ⟨rv, h4, h5⟩ := h.get h2
  have h6 := zargs_mem (n := 0) (h.all1 h1) h4
  rw [Nat.zero_add] at h6
  exact ⟨rv, h5, h6⟩
theorem zx_met {l : Launch} {y : MethodName} {ws : List Jvm.Cond} {rm : Room} {Pc : Array Value → State → Prop} {Qc : Array Value → State → Outcome → State → Prop} {XC : String → State → State → Prop} {mc ms : Nat} {free : Addr → Prop} (h : vx_Met l y ws rm Pc Qc XC mc ms free) (hX : ∀ E st t, ¬ XC E st t) : Met l y ws rm Pc Qc mc ms free := by
  intro p e ha hc hk s m args below hf hs hp hK
  obtain ⟨n, o, h1, h2, h3, h4⟩ := h p e ha hc hk s m args below hf hs hp hK
  refine ⟨n, o, h1, h2, h3, ?_⟩
  rcases h4 with h4 | ⟨q, -, E, ce, L, hx, -⟩
  · exact h4
  · exact absurd hx (hX _ _ _)
theorem zvx_ofW {l : Launch} {y : MethodName} {ws ws' : List Jvm.Cond} {rm : Room} {Pc : Array Value → State → Prop} {Qc : Array Value → State → Outcome → State → Prop} {XC : String → State → State → Prop} {mc ms : Nat} {free : Addr → Prop} {cc : ByteArray} {maxL : Nat} {ret : Option FieldType}
    (hy : plainFor y = true) (hw : ws = Jvm.Cond.code y cc maxL ret :: ws')
    (body : ∀ p e s m args below meth c s₁, BodyLoose p l y (headSpec ws rm) cc maxL ret e s m args below meth c s₁ → c.maxLocals = maxL → (∀ x ∈ c.exceptionTable.toList, False) → Pc args s →
      W p l e (headSpec ws rm).room s m args below meth c s.heap [] 0 0 (vx_MQ below Qc XC args s mc ms free) (entryFrame m args maxL)) : vx_Met l y ws rm Pc Qc XC mc ms free := by
  refine MetFree.of_bodySF (code := cc) (maxLocals := maxL) (ret := ret) hy ?_ ?_
  · intro args s m h hn
    obtain ⟨meth, c, h1, h2, h3, h4, h5, h6, -, -⟩ := Cond.code_spec hn (atoms_spec (ws := ws) h _ (by rw [hw]; exact List.mem_cons_self))
    exact ⟨meth, c, h1, h2, h3, h4, h5, h6⟩
  · intro p e s m args below meth c s₁ B hml hP _
    have hh0 : s₁.heap = s.heap := by rw [B.state]; rfl
    have ht : ∀ x ∈ c.exceptionTable.toList, False := by
      obtain ⟨meth9, c9, h1, h2, -, -, -, -, h7, -⟩ := Cond.code_spec B.named (atoms_spec (ws := ws) B.pre _ (by rw [hw]; exact List.mem_cons_self))
      cases Option.some.inj (h1.symm.trans B.method)
      cases Option.some.inj (h2.symm.trans (Stand.of_body B).code)
      intro x hx
      rw [Array.isEmpty_iff.mp h7] at hx
      cases hx
    obtain ⟨t, a1, o, b1, b2, b3⟩ := body p e s m args below meth c s₁ B hml ht hP s₁ hh0 (Stand.of_body B)
    exact ⟨t, o, a1, b1, b2, b3⟩
theorem zvx_ofWH {l : Launch} {y : MethodName} {ws ws' : List Jvm.Cond} {rm : Room} {Pc : Array Value → State → Prop} {Qc : Array Value → State → Outcome → State → Prop} {XC : String → State → State → Prop} {mc ms : Nat} {free : Addr → Prop} {cc : ByteArray} {maxL : Nat} {ret : Option FieldType} {hh : List (Nat × Nat × Nat × Nat)}
    (hy : plainFor y = true) (hw : ws = Jvm.Cond.codeWith y cc maxL ret hh :: ws')
    (body : ∀ p e s m args below meth c s₁, BodyLoose p l y (headSpec ws rm) cc maxL ret e s m args below meth c s₁ → c.maxLocals = maxL → Pc args s →
      W p l e (headSpec ws rm).room s m args below meth c s.heap [] 0 0 (vx_MQ below Qc XC args s mc ms free) (entryFrame m args maxL)) : vx_Met l y ws rm Pc Qc XC mc ms free := by
  refine MetFree.of_bodySF (code := cc) (maxLocals := maxL) (ret := ret) hy ?_ ?_
  · intro args s m h hn
    obtain ⟨m9, meth, c, hn9, h1, h2, h3, h4, -, h5, h6, -⟩ := Cond.codeWith_spec (atoms_spec (ws := ws) h _ (by rw [hw]; exact List.mem_cons_self))
    cases hn.symm.trans hn9
    exact ⟨meth, c, h1, h2, h3, h4, h5, h6⟩
  · intro p e s m args below meth c s₁ B hml hP _
    have hh0 : s₁.heap = s.heap := by rw [B.state]; rfl
    obtain ⟨t, a1, o, b1, b2, b3⟩ := body p e s m args below meth c s₁ B hml hP s₁ hh0 (Stand.of_body B)
    exact ⟨t, o, a1, b1, b2, b3⟩
/-- what the tables say of a method -/
def zMF (y : MethodName) (cc : ByteArray) (mL : Nat) (ret : Option FieldType) (hh : List (Nat × Nat × Nat × Nat)) (na stc ci rk kd : Nat) : Prop :=
  mL ≤ 16 ∧ na ≤ mL ∧ plainFor y = true ∧ (y.cls ≠ "java/lang/invoke/MethodHandle" ∧ y.cls ≠ "java/lang/invoke/VarHandle") ∧ (parseMethodDescriptor y.desc).map (fun d => d.parameters.length) = some (na - (1 - stc)) ∧
  (rk = 0 → ret = none) ∧ (rk = 1 → ret = some .int) ∧ (rk = 2 → ret = some .boolean) ∧
  (kd = 0 → hh = [] ∧ Jvm.Cond.code y cc mL ret ∈ lw_tbl) ∧ (kd ≠ 0 → Jvm.Cond.codeWith y cc mL ret hh ∈ lw_tbl) ∧ Jvm.Cond.initialized y.cls ∈ lw_tbl ∧
  (stc = 0 → 1 ≤ na ∧ Jvm.Cond.instanceMethod y ∈ lw_tbl ∧ (y.name = "<init>" ∨ Jvm.Cond.selects y.cls y y ∈ lw_tbl) ∧ ∃ T N, zat vwCl ci = some (y.cls, T, N)) ∧ (stc ≠ 0 → Jvm.Cond.static y ∈ lw_tbl)
theorem zwd_mem {i : Nat} {w : Jvm.Cond} (h : zwd i w = true) : w ∈ lw_tbl := by
  have h1 := zwd_s h
  rw [zat_eq] at h1
  exact List.mem_of_getElem? h1
theorem zmok_spec {j : Nat} (h : zmokF j = true) {y : MethodName} {cc : ByteArray} {mL : Nat} {ret : Option FieldType} {hh : List (Nat × Nat × Nat × Nat)} {q : Nat × Nat × Nat × Nat} (hj : zat zmn j = some (y, cc, mL, ret, hh, q)) {na mL' stc ci rk kd : Nat} (hi : zat zmi j = some (na, mL', stc, ci, rk, kd)) : mL' = mL ∧ zMF y cc mL ret hh na stc ci rk kd := by
  obtain ⟨wc, wi, wk, wsl⟩ := q
  unfold zmokF at h
  rw [hj, hi] at h
  simp only [Bool.and_eq_true, decide_eq_true_eq] at h
  obtain ⟨⟨⟨⟨⟨⟨⟨⟨⟨⟨h1, h2⟩, h3⟩, h4⟩, h5⟩, h6⟩, h7⟩, h8⟩, h9⟩, h10⟩, h11⟩ := h
  refine ⟨(zbeq h1).symm, Nat.le_of_ble_eq_true h2, Nat.le_of_ble_eq_true h3, h4, ⟨h5, h6⟩, h7, ?_, ?_, ?_, ?_, ?_, zwd_mem h10, ?_, ?_⟩
  · rintro rfl; exact of_decide_eq_true h8
  · rintro rfl; exact of_decide_eq_true h8
  · rintro rfl; exact of_decide_eq_true h8
  · rintro rfl
    simp only [Bool.and_eq_true, decide_eq_true_eq] at h9
    exact ⟨h9.1, zwd_mem h9.2⟩
  · intro hk
    cases kd with
    | zero => exact absurd rfl hk
    | succ k => exact zwd_mem h9
  · rintro rfl
    simp only [Bool.and_eq_true, Bool.or_eq_true, decide_eq_true_eq] at h11
    refine ⟨Nat.le_of_ble_eq_true h11.1.1.1, zwd_mem h11.1.1.2, h11.1.2.imp id zwd_mem, ?_⟩
    have h12 := h11.2
    split at h12
    · rename_i C T N hc
      exact ⟨T, N, by rw [hc, of_decide_eq_true h12]⟩
    · cases h12
  · intro hk
    cases stc with
    | zero => exact absurd rfl hk
    | succ k => exact zwd_mem h11
def zPre (D : va_G) (adK : Nat → Nat) (b z0 : Nat) (E : zE) (tys : List (ClassId × FieldType)) (ws : va_W) (av : List Value) : Array Value → State → Prop := va_Pc av (fun U => zEW adK b z0 E U U.heap ∧ va_K D vwCl tys U ∧ va_P D vwCl ws U.heap)
theorem zPre_blind {D : va_G} {adK : Nat → Nat} {b z0 : Nat} {E : zE} {tys : List (ClassId × FieldType)} {ws : va_W} {av : List Value} : FrameBlind (zPre D adK b z0 E tys ws av) := by
  intro a U g mk ⟨h1, h2, h3, h4⟩
  exact ⟨h1, zEW.go (U := U.calling g mk a) (State.WarmedH.refl U) (Nat.le_refl _) (fun _ _ _ => rfl) h2, va_K.moved (u := U) (U := U.calling g mk a) (Vm.Alike.refl U.vm) h3, h4⟩
section ZCALL
variable {l : Launch} {D : va_G} {adK : Nat → Nat} {b z0 : Nat} {E : zE} {f : zF}
/-- a method's contract, out of what the evaluator answers for it -/
theorem zmet (IH : zWk l D adK b z0 E f) {j : Nat} {y : MethodName} {cc : ByteArray} {mL : Nat} {ret : Option FieldType} {hh : List (Nat × Nat × Nat × Nat)} {q : Nat × Nat × Nat × Nat} (hj : zat zmn j = some (y, cc, mL, ret, hh, q)) {na stc ci rk kd : Nat} (hF : zMF y cc mL ret hh na stc ci rk kd)
    {d : Nat} {as : List Value} {h h1 : zH} {r : Option Value ⊕ Nat} (e : f d j 0 (zent mL as) [] h = some (r, h1)) (hall : as.all zc1 = true) (hlen : as.length = na) {tys : List (ClassId × FieldType)} {ws : va_W} {ras : List Value} (hv : zVs adK b ws as ras) (hR : zRel tys ws h) (hD : va_D (zA z0) ws) (hle : zleH h h1) :
    (kd = 0 → vx_Met l y [Jvm.Cond.code y cc mL ret] (zRm d (h1.2.2.2.1 - h.2.2.2.1) (h1.2.2.2.2 - h.2.2.2.2)) (zPre D adK b z0 E tys ws ras) (zQc D adK b z0 ws r h1) (zXC D z0 ws r h1) (h1.2.2.2.1 - h.2.2.2.1) (h1.2.2.2.2 - h.2.2.2.2) (zA z0)) ∧
    (kd ≠ 0 → vx_Met l y [Jvm.Cond.codeWith y cc mL ret hh] (zRm d (h1.2.2.2.1 - h.2.2.2.1) (h1.2.2.2.2 - h.2.2.2.2)) (zPre D adK b z0 E tys ws ras) (zQc D adK b z0 ws r h1) (zXC D z0 ws r h1) (h1.2.2.2.1 - h.2.2.2.1) (h1.2.2.2.2 - h.2.2.2.2) (zA z0)) := by
  have h1a := hle.1
  have h1b := hle.2
  have hcat := hv.all1 hall
  have core : ∀ (p : Program) (e9 : Env) (s : State) (m : MethodId) (args : Array Value) (below : List Frame) (meth : Method) (c : Code), zFr p s m meth c y cc mL ret hh → zPre D adK b z0 E tys ws ras args s →
      W p l e9 (zRm d (h1.2.2.2.1 - h.2.2.2.1) (h1.2.2.2.2 - h.2.2.2.2)) s m args below meth c s.heap [] 0 0 (vx_MQ below (zQc D adK b z0 ws r h1) (zXC D z0 ws r h1) args s (h1.2.2.2.1 - h.2.2.2.1) (h1.2.2.2.2 - h.2.2.2.2) (zA z0)) (entryFrame m args mL) := by
    intro p e9 s m args below meth c hfr ⟨ha, hE, hK, hP⟩
    subst ha
    rw [lg_entry_eq]
    exact IH _ _ _ _ _ _ _ _ e p e9 _ s m _ below meth c y cc mL ret hh q ws _ _ hj hfr hE (Nat.le_refl _) (Nat.le_refl _) (Nat.le_refl _) (Nat.le_refl _) s.heap [] 0 0 tys ws [] _ _ (by dsimp only [zRm]; omega) (by dsimp only [zRm]; omega) hK hP hD va_S.rf hR (zExt.rf ws) rfl (zLr.entry hv hall) (lv_entry ras (by rw [zlg_len hcat, hv.len, hlen]; exact hF.2.1))
  refine ⟨fun hk => ?_, fun hk => ?_⟩
  · obtain ⟨hh0, hcd⟩ := hF.2.2.2.2.2.2.2.2.1 hk
    refine zvx_ofW (cc := cc) (maxL := mL) (ret := ret) hF.2.2.1 rfl ?_
    intro p e9 s m args below meth c s₁ B hml ht hp
    refine core p e9 s m args below meth c ⟨B.exec, B.bytes, B.returns, hml, findClass_of_methodNamed B.named, B.notSynchronized, (name_of_methodNamed B.named B.method).1, ?_⟩ hp
    rw [hh0]
    exact List.eq_nil_iff_forall_not_mem.mpr fun x hx => ht x hx
  · have hcd := hF.2.2.2.2.2.2.2.2.2.1 hk
    refine zvx_ofWH (cc := cc) (maxL := mL) (ret := ret) (hh := hh) hF.2.2.1 rfl ?_
    intro p e9 s m args below meth c s₁ B hml hp
    refine core p e9 s m args below meth c ⟨B.exec, B.bytes, B.returns, hml, findClass_of_methodNamed B.named, B.notSynchronized, (name_of_methodNamed B.named B.method).1, ?_⟩ hp
    exact vx_table (x := y) B (atoms_spec (ws := [Jvm.Cond.codeWith y cc mL ret hh]) B.pre _ List.mem_cons_self)
end ZCALL
section ZGO
variable {p : Program} {l : Launch} {e : Env} {R : Room} {s : State} {m : MethodId} {args : Array Value} {below : List Frame} {meth : Method} {c : Code}
variable {D : va_G} {adK : Nat → Nat} {b z0 : Nat} {E : zE} {y : MethodName} {cc : ByteArray} {mL : Nat} {ret : Option FieldType} {hh : List (Nat × Nat × Nat × Nat)} {ws0 : va_W} {mc ms : Nat} {r : Option Value ⊕ Nat} {h' : zH}
variable {pc : Nat} {ls : zLs} {st r1 : List Value} {h : zH}
/-- behind a call that has answered -/
theorem zcont {H : Heap} {locs : List Loc} {cells slots mc1 ms1 : Nat} {ws : va_W} {LS : Array Slot} {lv : List (Nat × Value)} {st0 rr : List Value} {v : Option Value} {h1 : zH} {a : Array Value}
    (hr : va_Run p l e R s m args below meth c H locs cells slots mc1 ms1 (F0 m pc LS st0) rr (zQc D adK b z0 ws (.inl v) h1 a) (zA z0)) (hS : va_S (zA z0) s.heap H locs) (b1 : cells + mc1 + h'.2.2.2.1 ≤ mc + h1.2.2.2.1) (b2 : slots + ms1 + h'.2.2.2.2 ≤ ms + h1.2.2.2.2)
    (hE : zExt ws0 ws) (hv : zVs adK b ws r1 rr) (hl : zLr adK b ws ls lv) (hL : lv_has LS mL lv)
    (K : zGo p l e R s m args below meth c D adK b z0 mL ws0 mc ms r h' (pc + 3) ls (v.toList ++ r1) h1) : W p l e R s m args below meth c H locs cells slots (vx_MQ below (zQc D adK b z0 ws0 r h') (zXC D z0 ws0 r h') args s mc ms (zA z0)) (F0 m pc LS st0) := by
  intro T hT X
  obtain ⟨v', st₀, t, T', L, h0, X', hL2, e1, e2, ⟨v2, rv, tys', ws', hv2, ho, hvo, hx, hK', hP', hD', hR', hF⟩, go⟩ := hr T hT X
  cases hv2
  cases ho
  obtain ⟨k1, k2, k3⟩ := vx_keep h0 e1 hS (fun _ _ h => h) (fun _ h => h) hL2 hF
  rw [← e1] at hP'
  have hK2 : va_K D vwCl tys' s := va_K.moved (by rw [← e2]; exact X'.warmed.alike.symm) hK'
  have hv3 : zVs adK b ws' (v.toList ++ r1) (v'.toList ++ rr) := by
    cases v with
    | none => cases (show v' = none from hvo); exact hv.mono hx
    | some v => obtain ⟨x, rfl, h4⟩ := hvo; exact ⟨x, rr, rfl, h4, hv.mono hx⟩
  obtain ⟨t2, a1, a2⟩ := K T'.heap (locs ++ L) (cells + mc1) (slots + ms1) tys' ws' (v'.toList ++ rr) LS lv b1 b2 hK2 hP' hD' k3 hR' (hE.tr hx) hv3 (hl.mono hx) hL T' rfl X'
  exact ⟨t2, go t2 a1, a2⟩
/-- behind a call that has thrown: here, or at the caller -/
theorem zcontX {H : Heap} {locs : List Loc} {cells slots mc1 ms1 : Nat} {ws : va_W} {LS : Array Slot} {st0 rr : List Value} {x : Nat} {h1 : zH} {a : Array Value}
    (hr : vx_Run p l e R s m args below meth c H locs cells slots mc1 ms1 (F0 m pc LS st0) rr (zQc D adK b z0 ws (.inr x) h1 a) (zXC D z0 ws (.inr x) h1) (zA z0)) (hS : va_S (zA z0) s.heap H locs)
    {Q : State → Prop} (K : ∀ (X : String) (ce : Cell) (q : Addr) (H1 : Heap) (locs1 : List Loc) (tys : List (ClassId × FieldType)) (ws1 : va_W), zat zxn x = some X → H1[q]? = some ce → ce.vm = .none → s.vm.findClass X = some ce.cls → va_K D vwCl tys s → va_P D vwCl ws1 H1 → va_D (zA z0) ws1 → va_S (zA z0) s.heap H1 locs1 → zRel tys ws1 h1 → zExt ws ws1 → vx_W p l e R s m args below meth c H1 locs1 (cells + mc1) (slots + ms1) Q (F0 m pc LS rr) q) : W p l e R s m args below meth c H locs cells slots Q (F0 m pc LS st0) := by
  intro T hT X
  rcases hr T hT X with ⟨v', st₀, t, T', L, h0, X', hL2, e1, e2, ⟨v2, rv, tys', ws', hv2, -⟩, go⟩ | ⟨q, st₀, t, T', L, X9, ce, h0, X', hL2, e1, e2, ⟨x2, tys', ws', hx2, hxn, hx, hK', hP', hD', hR', hF⟩, hce, hcv, hcl, go⟩
  · cases hv2
  · cases hx2
    obtain ⟨k1, k2, k3⟩ := vx_keep h0 e1 hS (fun _ _ h => h) (fun _ h => h) hL2 hF
    rw [← e1] at hP' hce
    have hK2 : va_K D vwCl tys' s := va_K.moved (by rw [← e2]; exact X'.warmed.alike.symm) hK'
    obtain ⟨t2, a1, a2⟩ := K X9 ce q T'.heap (locs ++ L) tys' ws' hxn hce hcv hcl hK2 hP' hD' k3 hR' hx T' rfl X'
    exact ⟨t2, go.trans a1, a2⟩
/-- int and boolean answers, and none -/
theorem zs_ret (X : zFr p s m meth c y cc mL ret hh) {x9 : Int32} (hd : decode cc pc = .ok (.ireturn, 1)) {ty : FieldType} (hret : ret = some ty) (hn : narrow ty (.int x9) = .int x9) : zGo p l e R s m args below meth c D adK b z0 mL ws0 mc ms (.inl (some (.int x9))) h pc ls [.int x9] h := by
  intro H locs cells slots tys ws rst LS lv b1 b2 hK hP hD hS hR hE hv hl hL
  obtain ⟨hx, hb, hr, hml, hown, hlocks, hname, hexc⟩ := X
  obtain ⟨_, _, rfl, rfl, hv⟩ := hv
  cases (show _ = [] from hv)
  refine W.widen (k := mc) (n := ms) (by omega) (by omega) (vx_ret ?_)
  exact W.zret hx hb (hr.trans hret) hn (fun t ht hW => ⟨_, _, tys, ws, rfl, rfl, ⟨_, rfl, rfl⟩, hE, va_K.moved hW.alike hK, by rw [ht]; exact hP, hD, hR, hS.F ht⟩) hS.2.2 hd
theorem zs_retV (X : zFr p s m meth c y cc mL ret hh) (hd : decode cc pc = .ok (.return_, 1)) (hret : ret = none) : zGo p l e R s m args below meth c D adK b z0 mL ws0 mc ms (.inl none) h pc ls [] h := by
  intro H locs cells slots tys ws rst LS lv b1 b2 hK hP hD hS hR hE hv hl hL
  obtain ⟨hx, hb, hr, hml, hown, hlocks, hname, hexc⟩ := X
  cases (show _ = [] from hv)
  refine W.widen (k := mc) (n := ms) (by omega) (by omega) (vx_ret ?_)
  exact W.vret hx hb (hr.trans hret) (fun t ht hW => ⟨_, _, tys, ws, rfl, rfl, rfl, hE, va_K.moved hW.alike hK, by rw [ht]; exact hP, hD, hR, hS.F ht⟩) hS.2.2 hd
set_option maxRecDepth 100000 in
theorem zs_copy (X : zFr p s m meth c y cc mL ret hh) (hT : zTW s) {i : Nat} {n dp sp : Int32} {a a2 na nb : Nat} {ra rb : List (Option Nat)} (h1 : zat h.1 a = some (.inl (0, na, ra))) (h2 : zat h.1 a2 = some (.inl (0, nb, rb))) (h3 : ¬ sp < 0) (h4 : ¬ dp < 0) (h5 : ¬ n < 0) (h6 : sp.toNatClampNeg + n.toNatClampNeg ≤ na) (h7 : dp.toNatClampNeg + n.toNatClampNeg ≤ nb) (h8 : zsum r1 ≤ 8)
    (hlk : Jvm.Cond.methodLink y.cls i arraycopyName ∈ lw_tbl) (hfr : 1 ≤ R.frames) (hlo : 300 ≤ R.locals) (hd : decode cc pc = .ok (.invokestatic i, 3)) (K : zGo p l e R s m args below meth c D adK b z0 mL ws0 mc ms r h' (pc + 3) ls r1 (zsetI h a2 (va_cpy (h.2.1 a) (h.2.1 a2) sp.toNatClampNeg dp.toNatClampNeg n.toNatClampNeg))) : zGo p l e R s m args below meth c D adK b z0 mL ws0 mc ms r h' pc ls (.int n :: .int dp :: .ref a2 :: .int sp :: .ref a :: r1) h := by
  intro H locs cells slots tys ws rst LS lv b1 b2 hK hP hD hS hR hE hv hl hL
  obtain ⟨hx, hb, hr, hml, hown, hlocks, hname, hexc⟩ := X
  obtain ⟨_, _, rfl, rfl, _, _, rfl, rfl, _, _, rfl, ⟨x2, hx2, rfl⟩, _, _, rfl, rfl, _, _, rfl, ⟨x1, hx1, rfl⟩, hv⟩ := hv
  obtain ⟨e1, k1, cA, hty, rfl⟩ := hR.row h1 hx1
  obtain ⟨e2, k2, cB, hty2, rfl⟩ := hR.row h2 hx2
  obtain ⟨t0, ht0⟩ := List.getElem?_of_mem hty
  obtain ⟨t1, ht1⟩ := List.getElem?_of_mem hty2
  refine va_copyi hx hb (hml.trans hL.1.symm) hown (hT _ hlk rfl _) (hT _ (zin 636 rfl) rfl _) (hT _ (zin 635 rfl) rfl _) (hT _ (zin 197 rfl) rfl _) hK hP hD hS a a2 t0 t1 k1 k2 ht0 ht1 rfl h3 h4 h5 h6 h7 (fun _ _ => rfl) hfr ?_ hd
    (fun H1 locs1 hP1 hD1 hS1 => K H1 locs1 cells slots tys _ _ LS lv b1 b2 hK hP1 hD1 hS1 (hR.setI h2 k2 ⟨cB, hty2, rfl⟩) (hE.tr (zExt.set k2)) (hv.mono (zExt.set k2)) (hl.mono (zExt.set k2)) hL)
  rw [hv.cats]
  have : nativeFrameWords "java/lang/System" "arraycopy" 5 ≤ 100 := by decide +kernel
  omega

set_option maxRecDepth 100000 in
theorem zs_min (X : zFr p s m meth c y cc mL ret hh) (hT : zTW s) {i : Nat} {x y' : Int32} (h8 : zsum r1 ≤ 8) (hlk : Jvm.Cond.methodLink y.cls i Lib.Math.min.name ∈ lw_tbl) (hfr : 1 ≤ R.frames) (hlo : 300 ≤ R.locals) (hmc : mc ≤ R.cells) (hms : ms ≤ R.slots) (hle : zleH h h') (hd : decode cc pc = .ok (.invokestatic i, 3)) (K : zGo p l e R s m args below meth c D adK b z0 mL ws0 mc ms r h' (pc + 3) (ls) (.int (if y' < x then y' else x) :: r1) (h)) : zGo p l e R s m args below meth c D adK b z0 mL ws0 mc ms r h' (pc) (ls) (.int y' :: .int x :: r1) (h) := by
  intro H locs cells slots tys ws rst LS lv b1 b2 hK hP hD hS hR hE hv hl hL
  obtain ⟨hx, hb, hr, hml, hown, hlocks, hname, hexc⟩ := X
  obtain ⟨_, _, rfl, rfl, _, _, rfl, rfl, hv⟩ := hv
  refine va_mmin hx hb (hml.trans hL.1.symm) hown (hT _ hlk rfl _) (hT _ (zin 673 rfl) rfl _) (hT _ (zin 202 rfl) rfl _) (hT _ (zin 674 rfl) rfl _) hfr (by rw [hv.cats]; omega) (by have := hle.1; omega) (by have := hle.2; omega) hd (K H locs cells slots tys ws _ LS lv b1 b2 hK hP hD hS hR hE ⟨_, _, rfl, rfl, hv⟩ hl hL)

set_option maxRecDepth 100000 in
theorem zs_max (X : zFr p s m meth c y cc mL ret hh) (hT : zTW s) {i : Nat} {x y' : Int32} (h8 : zsum r1 ≤ 8) (hlk : Jvm.Cond.methodLink y.cls i Lib.Math.max.name ∈ lw_tbl) (hfr : 1 ≤ R.frames) (hlo : 300 ≤ R.locals) (hmc : mc ≤ R.cells) (hms : ms ≤ R.slots) (hle : zleH h h') (hd : decode cc pc = .ok (.invokestatic i, 3)) (K : zGo p l e R s m args below meth c D adK b z0 mL ws0 mc ms r h' (pc + 3) (ls) (.int (if x < y' then y' else x) :: r1) (h)) : zGo p l e R s m args below meth c D adK b z0 mL ws0 mc ms r h' (pc) (ls) (.int y' :: .int x :: r1) (h) := by
  intro H locs cells slots tys ws rst LS lv b1 b2 hK hP hD hS hR hE hv hl hL
  obtain ⟨hx, hb, hr, hml, hown, hlocks, hname, hexc⟩ := X
  obtain ⟨_, _, rfl, rfl, _, _, rfl, rfl, hv⟩ := hv
  refine va_mmax hx hb (hml.trans hL.1.symm) hown (hT _ hlk rfl _) (hT _ (zin 704 rfl) rfl _) (hT _ (zin 202 rfl) rfl _) (hT _ (zin 705 rfl) rfl _) hfr (by rw [hv.cats]; omega) (by have := hle.1; omega) (by have := hle.2; omega) hd (K H locs cells slots tys ws _ LS lv b1 b2 hK hP hD hS hR hE ⟨_, _, rfl, rfl, hv⟩ hl hL)

set_option maxRecDepth 100000 in
theorem zs_objInit (X : zFr p s m meth c y cc mL ret hh) (hT : zTW s) {i a : Nat} (h8 : zsum r1 ≤ 8) (hlk : Jvm.Cond.methodLink y.cls i objectInit ∈ lw_tbl) (hfr : 1 ≤ R.frames) (hlo : 300 ≤ R.locals) (hd : decode cc pc = .ok (.invokespecial i, 3)) (K : zGo p l e R s m args below meth c D adK b z0 mL ws0 mc ms r h' (pc + 3) (ls) (r1) (h)) : zGo p l e R s m args below meth c D adK b z0 mL ws0 mc ms r h' (pc) (ls) (.ref a :: r1) (h) := by
  intro H locs cells slots tys ws rst LS lv b1 b2 hK hP hD hS hR hE hv hl hL
  obtain ⟨hx, hb, hr, hml, hown, hlocks, hname, hexc⟩ := X
  obtain ⟨_, _, rfl, ⟨x, hx9, rfl⟩, hv⟩ := hv
  refine W.objInit hx hb hown (hT _ hlk rfl _) (hT _ (zin 217 rfl) rfl _) (hT _ (zin 218 rfl) rfl _) rfl (hL.1.trans hml.symm) rfl hd hfr ?_ (K H locs cells slots tys ws _ LS lv b1 b2 hK hP hD hS hR hE hv hl hL)
  have := hv.cats
  show 2 * 0 + _ + 12 ≤ _
  rw [this]
  omega

theorem zstr_ok : zstrs.all (fun bs => Nat.blt bs.length 1000 && bs.all fun b => decide (narrow .char (.int b) = .int b) && decide (((b &&& 255).toUInt32 % 65536).toInt32 = b)) = true := by decide +kernel
theorem zstr_at {i : Nat} {bs : List Int32} (h : zat zstrs i = some bs) : bs.length < 1000 ∧ ∀ b ∈ bs, narrow .char (.int b) = .int b ∧ ((b &&& 255).toUInt32 % 65536).toInt32 = b := by
  rw [zat_eq] at h
  have h1 := List.all_eq_true.mp zstr_ok bs (List.mem_of_getElem? h)
  simp only [Bool.and_eq_true] at h1
  refine ⟨Nat.le_of_ble_eq_true h1.1, fun b hb => ?_⟩
  have h2 := List.all_eq_true.mp h1.2 b hb
  simp only [Bool.and_eq_true, decide_eq_true_eq] at h2
  exact h2
set_option maxRecDepth 100000 in
theorem zs_strlen (X : zFr p s m meth c y cc mL ret hh) (hEW : zEW adK b z0 E s s.heap) {i k : Nat} {bs : List Int32} (h8 : zsum r1 ≤ 8) (hbs : zat zstrs i = some bs) (hlk : Jvm.Cond.methodLink y.cls k ⟨"java/lang/String", "length", "()I"⟩ ∈ lw_tbl) (hfr : 10 ≤ R.frames) (hlo : 300 ≤ R.locals) (hmc : mc ≤ R.cells) (hms : ms ≤ R.slots) (hle : zleH h h') (hd : decode cc pc = .ok (.invokevirtual k, 3)) (K : zGo p l e R s m args below meth c D adK b z0 mL ws0 mc ms r h' (pc + 3) (ls) (.int (Int32.ofNat bs.length) :: r1) (h)) : zGo p l e R s m args below meth c D adK b z0 mL ws0 mc ms r h' (pc) (ls) (.retAddr i :: r1) (h) := by
  intro H locs cells slots tys ws rst LS lv b1 b2 hK hP hD hS hR hE hv hl hL
  obtain ⟨hx, hb, hr, hml, hown, hlocks, hname, hexc⟩ := X
  obtain ⟨_, _, rfl, rfl, hv⟩ := hv
  obtain ⟨hT, hRs, hSt, -⟩ := id hEW
  have hst := hSt i bs hbs
  have hst2 : zStr (zA z0) s H bs (adK i) := hst.go (Vm.Alike.refl s.vm) hS.2.1
  obtain ⟨hlen, -⟩ := zstr_at hbs
  have hle1 := hle.1
  have hle2 := hle.2
  refine W.callV (W.runV (C := "java/lang/String") (As := []) (Ts := []) (nL := mL) ⟨hx, hb, hml, hown, fun _ h => nomatch h⟩ (zm_le l adK b z0 E (a := adK i) (bs := bs) (by omega)) ⟨zcb hT (zin 840 rfl) (zin 198 rfl) hlk rfl rfl (by show 3 + 1 ≤ _; omega) (by show 8 + (1 + 11) + 60 ≤ _; omega) ⟨by decide +kernel, by decide +kernel⟩ (show _ = some 0 from by decide +kernel), hT _ (zin 838 rfl) rfl _, hT _ (zin 839 rfl) rfl _⟩
      ⟨zPc_blind (fun U g mk ar h => zStr_calling U g mk ar h), zStr_recv hst2, fun U hU hW => ⟨rfl, by rw [hU]; exact hEW.go hW hS.1 hS.2.1, by show zStr (zA z0) U U.heap bs (adK i); rw [hU]; exact hst2.go hW.alike (fun _ _ _ => rfl)⟩⟩ rfl rfl hL.1 rfl (by show 2 * 0 + _ ≤ _; rw [hv.cats]; omega) hd ⟨by show cells + 0 ≤ _; omega, by show slots + 0 ≤ _; omega⟩) (K H locs cells slots tys ws _ LS lv b1 b2 hK hP hD hS hR hE ⟨_, _, rfl, rfl, hv⟩ hl hL)
set_option maxRecDepth 100000 in
theorem zs_strch (X : zFr p s m meth c y cc mL ret hh) (hEW : zEW adK b z0 E s s.heap) {i k : Nat} {bs : List Int32} {j ch : Int32} (h8 : zsum r1 ≤ 8) (hbs : zat zstrs i = some bs) (hj : vp_in j bs.length) (hch : zat bs j.toNatClampNeg = some ch) (hlk : Jvm.Cond.methodLink y.cls k ⟨"java/lang/String", "charAt", "(I)C"⟩ ∈ lw_tbl) (hfr : 10 ≤ R.frames) (hlo : 300 ≤ R.locals) (hmc : mc ≤ R.cells) (hms : ms ≤ R.slots) (hle : zleH h h') (hd : decode cc pc = .ok (.invokevirtual k, 3)) (K : zGo p l e R s m args below meth c D adK b z0 mL ws0 mc ms r h' (pc + 3) (ls) (.int ch :: r1) (h)) : zGo p l e R s m args below meth c D adK b z0 mL ws0 mc ms r h' (pc) (ls) (.int j :: .retAddr i :: r1) (h) := by
  intro H locs cells slots tys ws rst LS lv b1 b2 hK hP hD hS hR hE hv hl hL
  obtain ⟨hx, hb, hr, hml, hown, hlocks, hname, hexc⟩ := X
  obtain ⟨_, _, rfl, rfl, _, _, rfl, rfl, hv⟩ := hv
  obtain ⟨hT, hRs, hSt, -⟩ := id hEW
  have hst := hSt i bs hbs
  have hst2 : zStr (zA z0) s H bs (adK i) := hst.go (Vm.Alike.refl s.vm) hS.2.1
  obtain ⟨hlen, hby⟩ := zstr_at hbs
  obtain ⟨q1, q2⟩ := hby ch (by rw [zat_eq] at hch; exact List.mem_of_getElem? hch)
  have hle1 := hle.1
  have hle2 := hle.2
  have hlt : j < Int32.ofNat bs.length := by
    obtain ⟨n, hn, rfl⟩ := vp_in_of hj (by omega)
    exact nI_lt hn (by omega)
  refine W.callV (W.runV (C := "java/lang/String") (As := [.int j]) (Ts := []) (nL := mL) ⟨hx, hb, hml, hown, fun _ h => nomatch h⟩ (zm_ch l adK b z0 E (a := adK i) (bs := bs) hj hlt hch q1 q2) ⟨zcb hT (zin 850 rfl) (zin 198 rfl) hlk rfl rfl (by show 7 + 1 ≤ _; omega) (by show 8 + (2 + 11) + 120 ≤ _; omega) ⟨by decide +kernel, by decide +kernel⟩ (show _ = some 1 from by decide +kernel), hT _ (zin 848 rfl) rfl _, hT _ (zin 849 rfl) rfl _⟩
      ⟨zPc_blind (fun U g mk ar h => zStr_calling U g mk ar h), zStr_recv hst2, fun U hU hW => ⟨rfl, by rw [hU]; exact hEW.go hW hS.1 hS.2.1, by show zStr (zA z0) U U.heap bs (adK i); rw [hU]; exact hst2.go hW.alike (fun _ _ _ => rfl)⟩⟩ rfl rfl hL.1 rfl (by show 2 * 0 + _ ≤ _; rw [hv.cats]; omega) hd ⟨by show cells + 0 ≤ _; omega, by show slots + 0 ≤ _; omega⟩) (K H locs cells slots tys ws _ LS lv b1 b2 hK hP hD hS hR hE ⟨_, _, rfl, rfl, hv⟩ hl hL)

theorem zats0 : ∀ w ∈ vx_atS "SandHouse" 95 "java/lang/IllegalArgumentException" zxnm, w ∈ lw_tbl ∧ zgw w = true := by decide +kernel
theorem zatg0 : ∀ w ∈ vx_atS "SandHouse" 95 "java/lang/IllegalArgumentException" zxnm, vx_ot w = true := by decide +kernel
theorem zats1 : ∀ w ∈ vx_atS "SandHouse" 107 "java/lang/UnsupportedOperationException" zxnm, w ∈ lw_tbl ∧ zgw w = true := by decide +kernel
theorem zatg1 : ∀ w ∈ vx_atS "SandHouse" 107 "java/lang/UnsupportedOperationException" zxnm, vx_ot w = true := by decide +kernel
theorem zats2 : ∀ w ∈ vx_atS "SandHouse" 399 "java/lang/IndexOutOfBoundsException" zxnm, w ∈ lw_tbl ∧ zgw w = true := by decide +kernel
theorem zatg2 : ∀ w ∈ vx_atS "SandHouse" 399 "java/lang/IndexOutOfBoundsException" zxnm, vx_ot w = true := by decide +kernel
set_option maxRecDepth 100000 in
theorem zats : ∀ x X, zat zxn x = some X → (x ≠ 3 → ∀ w ∈ vx_atS "SandHouse" (zxi x) X zxnm, w ∈ lw_tbl ∧ zgw w = true ∧ vx_ot w = true) ∧ Bundle.fit X = true ∧ Jvm.Cond.initialized X ∈ lw_tbl
  | 0, X, h => by
    cases (Option.some.inj h)
    exact ⟨fun _ w hw => ⟨(zats0 w hw).1, (zats0 w hw).2, zatg0 w hw⟩, by decide +kernel, zin 206 rfl⟩
  | 1, X, h => by
    cases (Option.some.inj h)
    exact ⟨fun _ w hw => ⟨(zats1 w hw).1, (zats1 w hw).2, zatg1 w hw⟩, by decide +kernel, zin 207 rfl⟩
  | 2, X, h => by
    cases (Option.some.inj h)
    exact ⟨fun _ w hw => ⟨(zats2 w hw).1, (zats2 w hw).2, zatg2 w hw⟩, by decide +kernel, zin 208 rfl⟩
  | 3, X, h => by
    cases (Option.some.inj h)
    exact ⟨fun h => absurd rfl h, by decide +kernel, zin 209 rfl⟩
  | n + 4, X, h => by simp [zxn, zat] at h
theorem zxnm_fit : ∀ n ∈ zxnm, Bundle.fit n = true := by decide +kernel
/-- throw new X(text) -/
theorem zs_throw (X : zFr p s m meth c y cc mL ret hh) (hEW : zEW adK b z0 E s s.heap) (htr : l.stackTraces = false) {i x k sid : Nat} {XN tx : String} (hxn : zat zxn x = some XN) (hown9 : y.cls = "SandHouse") (hh0 : hh = []) (hsid : zat zsref sid = some (y.cls, k, tx)) (hlk : Jvm.Cond.classLink y.cls i XN ∈ lw_tbl)
    (h8 : zsum st ≤ 8) (hfr : 10 ≤ R.frames) (hlo : 300 ≤ R.locals) (hmc : mc ≤ R.cells) (hms : ms ≤ R.slots) (d0 : decode cc pc = .ok (.new i, 3)) (d3 : decode cc (pc + 3) = .ok (.dup, 1))
    (dd : (decode cc (pc + 4) = .ok (.ldc k, 2) ∧ decode cc (pc + 6) = .ok (.invokespecial (zxi x), 3) ∧ decode cc (pc + 9) = .ok (.athrow, 1)) ∨ (decode cc (pc + 4) = .ok (.ldc_w k, 3) ∧ decode cc (pc + 7) = .ok (.invokespecial (zxi x), 3) ∧ decode cc (pc + 10) = .ok (.athrow, 1))) :
    zGo p l e R s m args below meth c D adK b z0 mL ws0 mc ms (.inr x) (h.1, h.2.1, h.2.2.1, h.2.2.2.1 + 1, h.2.2.2.2 + 6) pc ls st h := by
  intro H locs cells slots tys ws rst LS lv b1 b2 hK hP hD hS hR hE hv hl hL
  obtain ⟨hx, hb, hr, hml, hown, hlocks, hname, hexc⟩ := X
  obtain ⟨hT, hRs, hSt, ⟨hU, hN⟩, -⟩ := id hEW
  obtain ⟨q1, q2, q3⟩ := zats x XN hxn
  have b1 : cells + (h.2.2.2.1 + 1) ≤ mc + h.2.2.2.1 := b1
  have b2 : slots + (h.2.2.2.2 + 6) ≤ ms + h.2.2.2.2 := b2
  have hcat := hv.cats
  have hout : ∀ (z : Nat), ∀ q ∈ c.exceptionTable.toList, covers q z = false := by
    intro z q hq
    rw [hexc, hh0] at hq
    exact absurd hq List.not_mem_nil
  have hXC : ∀ t : State, s.vm.Alike t.vm → H.size ≤ t.heap.size → (∀ q : Nat, q < H.size → t.heap[q]? = H[q]?) → zXC D z0 ws0 (.inr x) (h.1, h.2.1, h.2.2.1, h.2.2.2.1 + 1, h.2.2.2.2 + 6) XN s t := by
    intro t hvm hz hq
    exact ⟨x, tys, ws, rfl, hxn, hE, va_K.moved hvm hK, fun k q hk => (hP k q hk).kept (hq _ (hP k q hk).lt), hD, hR, Nat.le_trans hS.1 hz, fun q h1 h2 => by rw [hq q (Nat.lt_of_lt_of_le h1 hS.1)]; exact hS.2.1 q h1 h2⟩
  have hstr := hRs sid _ _ _ hsid
  by_cases hx3 : x = 3
  · subst hx3
    cases (Option.some.inj hxn)
    have hown' : s.vm.findClass "SandHouse" = some m.cls := by rw [← hown9]; exact hown
    rw [hown9] at hlk hstr
    have hat : ∀ w ∈ zatX.filter vx_no, w.before args s = true := fun w hw => hT w (zatX_ok w hw).1 (zatX_ok w hw).2 _
    rcases dd with ⟨d4, d6, d9⟩ | ⟨d4, d7, d10⟩
    · exact zthrowX (kq := 6) hx hb htr hown' (hT _ hlk rfl _) (hT _ q3 rfl _) hstr hat rfl rfl hU hN hS (hL.1.trans hml.symm) d0 d3 (Or.inl ⟨rfl, d4⟩) d6 d9 (hout _) (by omega) (by rw [hcat]; omega) (by omega) (by omega) hlocks hXC hS.2.2 (by omega) (by omega)
    · exact zthrowX (kq := 7) hx hb htr hown' (hT _ hlk rfl _) (hT _ q3 rfl _) hstr hat rfl rfl hU hN hS (hL.1.trans hml.symm) d0 d3 (Or.inr ⟨rfl, d4⟩) d7 d10 (hout _) (by omega) (by rw [hcat]; omega) (by omega) (by omega) hlocks hXC hS.2.2 (by omega) (by omega)
  have q1 := q1 hx3
  have hg : ∀ w ∈ Jvm.Cond.classLink y.cls i XN :: Jvm.Cond.initialized XN :: vx_atS y.cls (zxi x) XN zxnm, vx_ot w = true := by
    rw [hown9]
    intro w hw
    rcases List.mem_cons.mp hw with rfl | hw
    · rfl
    · rcases List.mem_cons.mp hw with rfl | hw
      · rfl
      · exact (q1 w hw).2.2
  have hat : ∀ w ∈ vx_atS y.cls (zxi x) XN zxnm, w.before args s = true := by
    rw [hown9]
    exact fun w hw => hT w (q1 w hw).1 (q1 w hw).2.1 _
  have hnl : zxnm.length = 2 := rfl
  rcases dd with ⟨d4, d6, d9⟩ | ⟨d4, d7, d10⟩
  · exact vx_throwS hx hb htr hown q2 zxnm_fit (hT _ hlk rfl _) (hT _ q3 rfl _) hstr hat hg hU hN hS (hL.1.trans hml.symm) d0 d3 d4 d6 d9 (hout _) (by rw [hnl]; omega) (by rw [hcat, hnl]; omega) (by omega) (by omega) hlocks hXC hS.2.2 (by omega) (by omega)
  · exact vx_throwSW hx hb htr hown q2 zxnm_fit (hT _ hlk rfl _) (hT _ q3 rfl _) hstr hat hg hU hN hS (hL.1.trans hml.symm) d0 d3 d4 d7 d10 (hout _) (by rw [hnl]; omega) (by rw [hcat, hnl]; omega) (by omega) (by omega) hlocks hXC hS.2.2 (by omega) (by omega)
end ZGO

