/-! INSTRUCTIONS ON CELLS -/
def zdef : Option (Option Nat) → Value
  | none => .int 0
  | some _ => .null
def zshchk (ci N : Nat) (sl : List (Option (Option Nat))) : Bool := Nat.beq sl.length N && (List.range N).all fun k => match zat sl k with
  | some none => zkind (zcty ci k) none
  | some (some none) => zkind (zcty ci k) (some none)
  | _ => false
theorem zgw_lay (C : String) (T : u_T) (k : Nat) : zgw (u_lay C T k) = true := by
  unfold u_lay
  split <;> rfl
def zclP (ci : Nat) (C : String) (T : u_T) (N : Nat) : Prop := (∀ w ∈ u_ws C T N, w ∈ lw_tbl) ∧ (∀ k, k < N → parseFieldDescriptor (T k).2.2.1 = some (zcty ci k)) ∧ (∀ a, a < N → ∀ b, b < N → a ≠ b → (T a).2.1 ≠ (T b).2.1) ∧
  Jvm.Cond.instantiable C N ∈ lw_tbl ∧ Jvm.Cond.initialized C ∈ lw_tbl ∧ ∀ sl, zat zcsh ci = some sl → zshchk ci N sl = true
set_option maxRecDepth 100000 in
theorem zclF : ∀ (ci : Nat) (C : String) (T : u_T) (N : Nat), zat vwCl ci = some (C, T, N) → zclP ci C T N
  | 0, C, T, N, h => by
    cases (Option.some.inj (show some ((RX0, TX0, 13) : vw_C) = some (C, T, N) from h))
    exact ⟨inX0, tyX0_ok, nmX0, List.mem_of_getElem? (i := 364) rfl, List.mem_of_getElem? (i := 189) rfl, fun sl h => by cases (Option.some.inj h); decide +kernel⟩
  | 1, C, T, N, h => by
    cases (Option.some.inj (show some ((RX1, TX1, 3) : vw_C) = some (C, T, N) from h))
    exact ⟨inX1, tyX1_ok, nmX1, List.mem_of_getElem? (i := 442) rfl, List.mem_of_getElem? (i := 190) rfl, fun sl h => by cases (Option.some.inj h); decide +kernel⟩
  | 2, C, T, N, h => by
    cases (Option.some.inj (show some ((RX2, TX2, 3) : vw_C) = some (C, T, N) from h))
    exact ⟨inX2, tyX2_ok, nmX2, List.mem_of_getElem? (i := 253) rfl, List.mem_of_getElem? (i := 186) rfl, fun sl h => by cases (Option.some.inj h); decide +kernel⟩
  | 3, C, T, N, h => by
    cases (Option.some.inj (show some ((RX3, TX3, 6) : vw_C) = some (C, T, N) from h))
    exact ⟨inX3, tyX3_ok, nmX3, List.mem_of_getElem? (i := 529) rfl, List.mem_of_getElem? (i := 194) rfl, fun sl h => by cases (Option.some.inj h); decide +kernel⟩
  | 4, C, T, N, h => by
    cases (Option.some.inj (show some ((RX4, TX4, 5) : vw_C) = some (C, T, N) from h))
    exact ⟨inX4, tyX4_ok, nmX4, List.mem_of_getElem? (i := 483) rfl, List.mem_of_getElem? (i := 192) rfl, fun sl h => by cases (Option.some.inj h); decide +kernel⟩
  | 5, C, T, N, h => by
    cases (Option.some.inj (show some ((RX5, TX5, 8) : vw_C) = some (C, T, N) from h))
    exact ⟨inX5, tyX5_ok, nmX5, List.mem_of_getElem? (i := 316) rfl, List.mem_of_getElem? (i := 188) rfl, fun sl h => by cases (Option.some.inj h); decide +kernel⟩
  | 6, C, T, N, h => by
    cases (Option.some.inj (show some ((RX6, TX6, 2) : vw_C) = some (C, T, N) from h))
    exact ⟨inX6, tyX6_ok, nmX6, List.mem_of_getElem? (i := 560) rfl, List.mem_of_getElem? (i := 195) rfl, fun sl h => by cases (Option.some.inj h); decide +kernel⟩
  | 7, C, T, N, h => by
    cases (Option.some.inj (show some ((RX7, TX7, 4) : vw_C) = some (C, T, N) from h))
    exact ⟨inX7, tyX7_ok, nmX7, List.mem_of_getElem? (i := 459) rfl, List.mem_of_getElem? (i := 191) rfl, fun sl h => by cases (Option.some.inj h); decide +kernel⟩
  | 8, C, T, N, h => by
    cases (Option.some.inj (show some ((RX8, TX8, 9) : vw_C) = some (C, T, N) from h))
    exact ⟨inX8, tyX8_ok, nmX8, List.mem_of_getElem? (i := 259) rfl, List.mem_of_getElem? (i := 187) rfl, fun sl h => by cases (Option.some.inj h); decide +kernel⟩
  | 9, C, T, N, h => by
    cases (Option.some.inj (show some ((RX9, TX9, 6) : vw_C) = some (C, T, N) from h))
    exact ⟨inX9, tyX9_ok, nmX9, List.mem_of_getElem? (i := 220) rfl, List.mem_of_getElem? (i := 185) rfl, fun sl h => by cases (Option.some.inj h); decide +kernel⟩
  | 10, C, T, N, h => by
    cases (Option.some.inj (show some ((RX10, TX10, 2) : vw_C) = some (C, T, N) from h))
    exact ⟨inX10, tyX10_ok, nmX10, List.mem_of_getElem? (i := 514) rfl, List.mem_of_getElem? (i := 193) rfl, fun sl h => by cases (Option.some.inj h); decide +kernel⟩
  | 11, C, T, N, h => by
    cases (Option.some.inj (show some ((RX11, TX11, 10) : vw_C) = some (C, T, N) from h))
    exact ⟨inX11, tyX11_ok, nmX11, List.mem_of_getElem? (i := 212) rfl, List.mem_of_getElem? (i := 184) rfl, fun sl h => by cases (Option.some.inj h); decide +kernel⟩
  | 12, C, T, N, h => by
    cases (Option.some.inj (show some ((RX12, TX12, 19) : vw_C) = some (C, T, N) from h))
    exact ⟨inX12, tyX12_ok, nmX12, List.mem_of_getElem? (i := 1612) rfl, List.mem_of_getElem? (i := 196) rfl, fun sl h => by cases (Option.some.inj h); decide +kernel⟩
  | n + 13, C, T, N, h => by simp [vwCl, zat] at h
theorem zcl_ts {ci : Nat} {C : String} {T : u_T} {N : Nat} (h : zclP ci C T N) {s : State} (hT : zTW s) {args : Array Value} : ∀ w ∈ u_ws C T N, w.before args s = true := by
  intro w hw
  obtain ⟨k, -, rfl⟩ := List.mem_map.mp hw
  exact hT _ (h.1 _ hw) (zgw_lay C T k) _
section ZHEAP
variable {p : Program} {l : Launch} {e : Env} {R : Room} {s : State} {m : MethodId} {args : Array Value} {below : List Frame} {meth : Method} {c : Code}
variable {D : va_G} {adK : Nat → Nat} {b z0 : Nat} {E : zE} {y : MethodName} {cc : ByteArray} {mL : Nat} {ret : Option FieldType} {hh : List (Nat × Nat × Nat × Nat)} {ws0 : va_W} {mc ms : Nat} {r : Option Value ⊕ Nat} {h' : zH}
variable {pc : Nat} {ls : zLs} {st r1 : List Value} {h : zH}
/-- an object's cell -/
theorem zRel.obj {tys : List (ClassId × FieldType)} {ws : va_W} {h : zH} (hR : zRel tys ws h) {a ci : Nat} {sl : List (Option (Option Nat))} (ha : zat h.1 a = some (.inr (.inl (ci, sl)))) {x : Nat} (hx : zad ws a x) : ∃ fs, ws[a]? = some (x, .inr (ci, fs)) ∧ ∀ k o, zat sl k = some o → ∃ rv, fs[k]? = some rv ∧ zkind (zcty ci k) o = true ∧ match o with
    | none => rv = .int (h.2.1 a k)
    | some none => rv = .null
    | some (some r) => ∃ a, zad ws r a ∧ rv = .ref a := by
  obtain ⟨x', e', h1, h2⟩ := hR.2 a _ ha
  obtain ⟨e, hx⟩ := hx
  cases h1.symm.trans hx
  obtain ⟨fs, rfl, h3⟩ := h2
  exact ⟨fs, hx, h3⟩
theorem zErel.objI {tys : List (ClassId × FieldType)} {ws : va_W} {ci : Nat} {sl : List (Option (Option Nat))} {vc : Nat → Int32} {wc : Nat → Int64} {fs : List Value} (he : zErel tys ws (.inr (.inl (ci, sl))) vc wc (.inr (ci, fs))) {k : Nat} (hk : zat sl k = some none) (x : Int32) : zErel tys ws (.inr (.inl (ci, sl))) (upd vc k x) wc (.inr (ci, fs.set k (.int x))) := by
  obtain ⟨fs', e1, h3⟩ := he
  cases e1
  refine ⟨_, rfl, fun j o hj => ?_⟩
  obtain ⟨rv, h4, h5, h6⟩ := h3 j o hj
  by_cases hjk : j = k
  · subst hjk
    cases hk.symm.trans hj
    refine ⟨.int x, by rw [List.getElem?_set_self (List.getElem?_eq_some_iff.mp h4).1], h5, ?_⟩
    show Value.int x = .int (upd vc j x j)
    rw [pk_us]
  · refine ⟨rv, by rw [List.getElem?_set_ne (fun z => hjk z.symm)]; exact h4, h5, ?_⟩
    cases o with
    | none =>
      show rv = .int (upd vc k x j)
      rw [pk_un hjk]
      exact h6
    | some o => cases o <;> exact h6
theorem zErel.objA {tys : List (ClassId × FieldType)} {ws : va_W} {ci : Nat} {sl : List (Option (Option Nat))} {vc : Nat → Int32} {wc : Nat → Int64} {fs : List Value} (he : zErel tys ws (.inr (.inl (ci, sl))) vc wc (.inr (ci, fs))) {k q a : Nat} {o' : Option Nat} (hk : zat sl k = some (some o')) (ha : zad ws q a) : zErel tys ws (.inr (.inl (ci, zset sl k (some (some q))))) vc wc (.inr (ci, fs.set k (.ref a))) := by
  obtain ⟨fs', e1, h3⟩ := he
  cases e1
  refine ⟨_, rfl, fun j o hj => ?_⟩
  rw [zset_eq, zat_eq] at hj
  by_cases hjk : j = k
  · subst hjk
    obtain ⟨rv, h4, h5, h6⟩ := h3 j _ hk
    rw [zat_eq] at hk
    rw [List.getElem?_set_self (List.getElem?_eq_some_iff.mp hk).1] at hj
    cases hj
    refine ⟨.ref a, by rw [List.getElem?_set_self (List.getElem?_eq_some_iff.mp h4).1], ?_, a, ha, rfl⟩
    cases hty : zcty ci j <;> rw [hty] at h5 <;> first | rfl | cases h5
  · rw [List.getElem?_set_ne (fun z => hjk z.symm), ← zat_eq] at hj
    obtain ⟨rv, h4, h5, h6⟩ := h3 j o hj
    exact ⟨rv, by rw [List.getElem?_set_ne (fun z => hjk z.symm)]; exact h4, h5, h6⟩
/-- a row's cell -/
theorem zRel.row {tys : List (ClassId × FieldType)} {ws : va_W} {h : zH} (hR : zRel tys ws h) {a : Nat} {sh : zS} (ha : zat h.1 a = some sh) {x : Nat} (hx : zad ws a x) : ∃ e, ws[a]? = some (x, e) ∧ zErel tys ws sh (h.2.1 a) (h.2.2.1 a) e := by
  obtain ⟨x', e', h1, h2⟩ := hR.2 a _ ha
  obtain ⟨e, hx⟩ := hx
  cases h1.symm.trans hx
  exact ⟨_, hx, h2⟩

theorem zs_getI (X : zFr p s m meth c y cc mL ret hh) {i ci fk a3 N : Nat} {C : String} {T : u_T} (hc : zat vwCl ci = some (C, T, N)) (hk : fk < N) (hT : zTW s) (hlk : (match a3 with | 0 => (Jvm.Cond.fieldLink y.cls i (T fk).1 (T fk).2.1 (T fk).2.2.1).before args s | _ => (Jvm.Cond.fieldLinkNest y.cls i (T fk).1 (T fk).2.1 (T fk).2.2.1 "SandHouse").before args s) = true) {a : Nat} {sl : List (Option (Option Nat))} (ha : zat h.1 a = some (.inr (.inl (ci, sl)))) (hs : zat sl fk = some none) (hd : decode cc pc = .ok (.getfield i, 3)) (K : zGo p l e R s m args below meth c D adK b z0 mL ws0 mc ms r h' (pc + 3) (ls) (.int (h.2.1 a fk) :: r1) (h)) : zGo p l e R s m args below meth c D adK b z0 mL ws0 mc ms r h' (pc) (ls) (.ref a :: r1) (h) := by
  intro H locs cells slots tys ws rst LS lv b1 b2 hK hP hD hS hR hE hv hl hL
  obtain ⟨hx, hb, hr, hml, hown, hlocks, hname, hexc⟩ := X
  have hF := zclF _ _ _ _ hc
  rw [zat_eq] at hc
  obtain ⟨_, _, rfl, ⟨x, hx9, rfl⟩, hv⟩ := hv
  obtain ⟨fs, h1, h2⟩ := hR.obj ha hx9
  obtain ⟨rv, h3, h4, h5⟩ := h2 fk _ hs
  cases (show rv = .int (h.2.1 a fk) from h5)
  cases a3 with
  | zero => exact va_get (Ts := u_ws C T N) hx hb (zcl_ts hF hT) (fun _ h => h) hown hK hP a h1 hc fk hk hlk (fun _ h => h) h3 hd (K H locs cells slots tys ws _ LS lv b1 b2 hK hP hD hS hR hE ⟨_, _, rfl, rfl, hv⟩ hl hL)
  | succ a3 => exact va_getN (Ts := u_ws C T N) (host := "SandHouse") hx hb (zcl_ts hF hT) (fun _ h => h) hown hK hP a h1 hc fk hk hlk (fun _ h => h) h3 hd (K H locs cells slots tys ws _ LS lv b1 b2 hK hP hD hS hR hE ⟨_, _, rfl, rfl, hv⟩ hl hL)

theorem zs_getA (X : zFr p s m meth c y cc mL ret hh) {i ci fk a3 N : Nat} {C : String} {T : u_T} (hc : zat vwCl ci = some (C, T, N)) (hk : fk < N) (hT : zTW s) (hlk : (match a3 with | 0 => (Jvm.Cond.fieldLink y.cls i (T fk).1 (T fk).2.1 (T fk).2.2.1).before args s | _ => (Jvm.Cond.fieldLinkNest y.cls i (T fk).1 (T fk).2.1 (T fk).2.2.1 "SandHouse").before args s) = true) {a : Nat} {sl : List (Option (Option Nat))} {o : Option Nat} (ha : zat h.1 a = some (.inr (.inl (ci, sl)))) (hs : zat sl fk = some (some o)) (hd : decode cc pc = .ok (.getfield i, 3)) (K : zGo p l e R s m args below meth c D adK b z0 mL ws0 mc ms r h' (pc + 3) (ls) (zrf o :: r1) (h)) : zGo p l e R s m args below meth c D adK b z0 mL ws0 mc ms r h' (pc) (ls) (.ref a :: r1) (h) := by
  intro H locs cells slots tys ws rst LS lv b1 b2 hK hP hD hS hR hE hv hl hL
  obtain ⟨hx, hb, hr, hml, hown, hlocks, hname, hexc⟩ := X
  have hF := zclF _ _ _ _ hc
  rw [zat_eq] at hc
  obtain ⟨_, _, rfl, ⟨x, hx9, rfl⟩, hv⟩ := hv
  obtain ⟨fs, h1, h2⟩ := hR.obj ha hx9
  obtain ⟨rv, h3, h4, h5⟩ := h2 fk _ hs
  have h6 : zV adK b ws (zrf o) rv := by
    cases o with
    | none => exact h5
    | some k => exact h5
  cases a3 with
  | zero => exact va_get (Ts := u_ws C T N) hx hb (zcl_ts hF hT) (fun _ h => h) hown hK hP a h1 hc fk hk hlk (fun _ h => h) h3 hd (K H locs cells slots tys ws _ LS lv b1 b2 hK hP hD hS hR hE ⟨_, _, rfl, h6, hv⟩ hl hL)
  | succ a3 => exact va_getN (Ts := u_ws C T N) (host := "SandHouse") hx hb (zcl_ts hF hT) (fun _ h => h) hown hK hP a h1 hc fk hk hlk (fun _ h => h) h3 hd (K H locs cells slots tys ws _ LS lv b1 b2 hK hP hD hS hR hE ⟨_, _, rfl, h6, hv⟩ hl hL)

theorem zs_putI (X : zFr p s m meth c y cc mL ret hh) {i ci fk a3 N : Nat} {C : String} {T : u_T} (hc : zat vwCl ci = some (C, T, N)) (hk : fk < N) (hT : zTW s) (hlk : (match a3 with | 0 => (Jvm.Cond.fieldLink y.cls i (T fk).1 (T fk).2.1 (T fk).2.2.1).before args s | _ => (Jvm.Cond.fieldLinkNest y.cls i (T fk).1 (T fk).2.1 (T fk).2.2.1 "SandHouse").before args s) = true) (hfn : (T fk).2.2.2 = false ∨ (a3 = 0 ∧ y.cls = (T fk).1 ∧ y.name = "<init>")) {a : Nat} {x9 : Int32} {sl : List (Option (Option Nat))} (ha : zat h.1 a = some (.inr (.inl (ci, sl)))) (hs : zat sl fk = some none) (hz : zcty ci fk = .boolean → x9 = 0 ∨ x9 = 1) (hd : decode cc pc = .ok (.putfield i, 3)) (K : zGo p l e R s m args below meth c D adK b z0 mL ws0 mc ms r h' (pc + 3) (ls) (r1) (zsetI h a (upd (h.2.1 a) fk x9))) : zGo p l e R s m args below meth c D adK b z0 mL ws0 mc ms r h' (pc) (ls) (.int x9 :: .ref a :: r1) (h) := by
  intro H locs cells slots tys ws rst LS lv b1 b2 hK hP hD hS hR hE hv hl hL
  obtain ⟨hx, hb, hr, hml, hown, hlocks, hname, hexc⟩ := X
  have hF := zclF _ _ _ _ hc
  rw [zat_eq] at hc
  obtain ⟨_, _, rfl, rfl, _, _, rfl, ⟨x, hx9, rfl⟩, hv⟩ := hv
  obtain ⟨e9, h1, h8⟩ := hR.row ha hx9
  obtain ⟨fs, rfl, h2⟩ := id h8
  obtain ⟨rv, h3, h4, h5⟩ := h2 fk _ hs
  have hn : narrow (zcty ci fk) (.int x9) = .int x9 ∧ fits (zcty ci fk) (.int x9) = true := by
    cases hty : zcty ci fk with
    | int => exact ⟨rfl, rfl⟩
    | boolean => rcases hz hty with rfl | rfl <;> exact ⟨rfl, rfl⟩
    | _ => rw [hty] at h4; cases h4
  have hlen : fk < fs.length := (List.getElem?_eq_some_iff.mp h3).1
  have hd9 := hF.2.1 fk hk
  by_cases hfin : (T fk).2.2.2 = false
  · cases a3 with
    | zero => exact va_put (Ts := u_ws C T N) hx hb (zcl_ts hF hT) (fun _ h => h) (zcty ci) hF.2.1 hF.2.2.1 hown hK hP hD hS a h1 hc fk hk hlk (fun _ h => h) hfin hd9 hn.1 hn.2 hlen hd (fun H1 locs1 hP1 hD1 hS1 => K H1 locs1 cells slots tys _ _ LS lv b1 b2 hK hP1 hD1 hS1 (hR.setI ha h1 (zErel.objI h8 hs x9)) (hE.tr (zExt.set h1)) (hv.mono (zExt.set h1)) (hl.mono (zExt.set h1)) hL)
    | succ a3 => exact va_putN (Ts := u_ws C T N) (host := "SandHouse") hx hb (zcl_ts hF hT) (fun _ h => h) (zcty ci) hF.2.1 hF.2.2.1 hown hK hP hD hS a h1 hc fk hk hlk (fun _ h => h) hfin hd9 hn.1 hn.2 hlen hd (fun H1 locs1 hP1 hD1 hS1 => K H1 locs1 cells slots tys _ _ LS lv b1 b2 hK hP1 hD1 hS1 (hR.setI ha h1 (zErel.objI h8 hs x9)) (hE.tr (zExt.set h1)) (hv.mono (zExt.set h1)) (hl.mono (zExt.set h1)) hL)
  · obtain ⟨rfl, hown2, hinit⟩ := hfn.resolve_left hfin
    exact va_putF (Ts := u_ws C T N) hx hb (zcl_ts hF hT) (fun _ h => h) (zcty ci) hF.2.1 hF.2.2.1 hown hK hP hD hS a h1 hc fk hk hlk (fun _ h => h) (by cases hq : (T fk).2.2.2 <;> first | rfl | exact absurd hq hfin) (hname.trans hinit) hown2.symm hd9 hn.1 hn.2 hlen hd (fun H1 locs1 hP1 hD1 hS1 => K H1 locs1 cells slots tys _ _ LS lv b1 b2 hK hP1 hD1 hS1 (hR.setI ha h1 (zErel.objI h8 hs x9)) (hE.tr (zExt.set h1)) (hv.mono (zExt.set h1)) (hl.mono (zExt.set h1)) hL)

theorem zs_putA (X : zFr p s m meth c y cc mL ret hh) {i ci fk a3 N : Nat} {C : String} {T : u_T} (hc : zat vwCl ci = some (C, T, N)) (hk : fk < N) (hT : zTW s) (hlk : (match a3 with | 0 => (Jvm.Cond.fieldLink y.cls i (T fk).1 (T fk).2.1 (T fk).2.2.1).before args s | _ => (Jvm.Cond.fieldLinkNest y.cls i (T fk).1 (T fk).2.1 (T fk).2.2.1 "SandHouse").before args s) = true) (hfn : (T fk).2.2.2 = false ∨ (a3 = 0 ∧ y.cls = (T fk).1 ∧ y.name = "<init>")) {a q : Nat} {o : Option Nat} {sl : List (Option (Option Nat))} (ha : zat h.1 a = some (.inr (.inl (ci, sl)))) (hs : zat sl fk = some (some o)) (hd : decode cc pc = .ok (.putfield i, 3)) (K : zGo p l e R s m args below meth c D adK b z0 mL ws0 mc ms r h' (pc + 3) (ls) (r1) (zsetS h a (.inr (.inl (ci, zset sl fk (some (some q))))))) : zGo p l e R s m args below meth c D adK b z0 mL ws0 mc ms r h' (pc) (ls) (.ref q :: .ref a :: r1) (h) := by
  intro H locs cells slots tys ws rst LS lv b1 b2 hK hP hD hS hR hE hv hl hL
  obtain ⟨hx, hb, hr, hml, hown, hlocks, hname, hexc⟩ := X
  have hF := zclF _ _ _ _ hc
  rw [zat_eq] at hc
  obtain ⟨_, _, rfl, ⟨xq, hxq, rfl⟩, _, _, rfl, ⟨x, hx9, rfl⟩, hv⟩ := hv
  obtain ⟨e9, h1, h8⟩ := hR.row ha hx9
  obtain ⟨fs, rfl, h2⟩ := id h8
  obtain ⟨rv, h3, h4, h5⟩ := h2 fk _ hs
  have hn : narrow (zcty ci fk) (.ref xq) = .ref xq ∧ fits (zcty ci fk) (.ref xq) = true := by
    cases hty : zcty ci fk with
    | object n => exact ⟨rfl, rfl⟩
    | array t => exact ⟨rfl, rfl⟩
    | _ => rw [hty] at h4; cases h4
  have hlen : fk < fs.length := (List.getElem?_eq_some_iff.mp h3).1
  have hd9 := hF.2.1 fk hk
  by_cases hfin : (T fk).2.2.2 = false
  · cases a3 with
    | zero => exact va_put (Ts := u_ws C T N) hx hb (zcl_ts hF hT) (fun _ h => h) (zcty ci) hF.2.1 hF.2.2.1 hown hK hP hD hS a h1 hc fk hk hlk (fun _ h => h) hfin hd9 hn.1 hn.2 hlen hd (fun H1 locs1 hP1 hD1 hS1 => K H1 locs1 cells slots tys _ _ LS lv b1 b2 hK hP1 hD1 hS1 (hR.setS h1 (zErel.objA h8 hs hxq)) (hE.tr (zExt.set h1)) (hv.mono (zExt.set h1)) (hl.mono (zExt.set h1)) hL)
    | succ a3 => exact va_putN (Ts := u_ws C T N) (host := "SandHouse") hx hb (zcl_ts hF hT) (fun _ h => h) (zcty ci) hF.2.1 hF.2.2.1 hown hK hP hD hS a h1 hc fk hk hlk (fun _ h => h) hfin hd9 hn.1 hn.2 hlen hd (fun H1 locs1 hP1 hD1 hS1 => K H1 locs1 cells slots tys _ _ LS lv b1 b2 hK hP1 hD1 hS1 (hR.setS h1 (zErel.objA h8 hs hxq)) (hE.tr (zExt.set h1)) (hv.mono (zExt.set h1)) (hl.mono (zExt.set h1)) hL)
  · obtain ⟨rfl, hown2, hinit⟩ := hfn.resolve_left hfin
    exact va_putF (Ts := u_ws C T N) hx hb (zcl_ts hF hT) (fun _ h => h) (zcty ci) hF.2.1 hF.2.2.1 hown hK hP hD hS a h1 hc fk hk hlk (fun _ h => h) (by cases hq : (T fk).2.2.2 <;> first | rfl | exact absurd hq hfin) (hname.trans hinit) hown2.symm hd9 hn.1 hn.2 hlen hd (fun H1 locs1 hP1 hD1 hS1 => K H1 locs1 cells slots tys _ _ LS lv b1 b2 hK hP1 hD1 hS1 (hR.setS h1 (zErel.objA h8 hs hxq)) (hE.tr (zExt.set h1)) (hv.mono (zExt.set h1)) (hl.mono (zExt.set h1)) hL)

theorem zs_iaload (X : zFr p s m meth c y cc mL ret hh) {j : Int32} {a n : Nat} {rf : List (Option Nat)} (ha : zat h.1 a = some (.inl (0, n, rf))) (hj : vp_in j n) (hd : decode cc pc = .ok (.iaload, 1)) (K : zGo p l e R s m args below meth c D adK b z0 mL ws0 mc ms r h' (pc + 1) (ls) (.int (h.2.1 a j.toNatClampNeg) :: r1) (h)) : zGo p l e R s m args below meth c D adK b z0 mL ws0 mc ms r h' (pc) (ls) (.int j :: .ref a :: r1) (h) := by
  intro H locs cells slots tys ws rst LS lv b1 b2 hK hP hD hS hR hE hv hl hL
  obtain ⟨hx, hb, hr, hml, hown, hlocks, hname, hexc⟩ := X
  obtain ⟨_, _, rfl, rfl, _, _, rfl, ⟨x, hx9, rfl⟩, hv⟩ := hv
  obtain ⟨e9, h1, cA, hty, rfl⟩ := hR.row ha hx9
  obtain ⟨t0, ht0⟩ := List.getElem?_of_mem hty
  exact va_iald hx hb hK hP a t0 h1 ht0 hj hd (K H locs cells slots tys ws _ LS lv b1 b2 hK hP hD hS hR hE ⟨_, _, rfl, rfl, hv⟩ hl hL)

theorem zs_baload (X : zFr p s m meth c y cc mL ret hh) {j : Int32} {a n : Nat} {rf : List (Option Nat)} (ha : zat h.1 a = some (.inl (1, n, rf))) (hj : vp_in j n) (hd : decode cc pc = .ok (.baload, 1)) (K : zGo p l e R s m args below meth c D adK b z0 mL ws0 mc ms r h' (pc + 1) (ls) (.int (h.2.1 a j.toNatClampNeg) :: r1) (h)) : zGo p l e R s m args below meth c D adK b z0 mL ws0 mc ms r h' (pc) (ls) (.int j :: .ref a :: r1) (h) := by
  intro H locs cells slots tys ws rst LS lv b1 b2 hK hP hD hS hR hE hv hl hL
  obtain ⟨hx, hb, hr, hml, hown, hlocks, hname, hexc⟩ := X
  obtain ⟨_, _, rfl, rfl, _, _, rfl, ⟨x, hx9, rfl⟩, hv⟩ := hv
  obtain ⟨e9, h1, cA, hty, rfl⟩ := hR.row ha hx9
  obtain ⟨t0, ht0⟩ := List.getElem?_of_mem hty
  exact va_bald hx hb hK hP a t0 h1 ht0 hj hd (K H locs cells slots tys ws _ LS lv b1 b2 hK hP hD hS hR hE ⟨_, _, rfl, rfl, hv⟩ hl hL)

theorem zs_laload (X : zFr p s m meth c y cc mL ret hh) {j : Int32} {a n : Nat} {rf : List (Option Nat)} (ha : zat h.1 a = some (.inl (2, n, rf))) (hj : vp_in j n) (hd : decode cc pc = .ok (.laload, 1)) (K : zGo p l e R s m args below meth c D adK b z0 mL ws0 mc ms r h' (pc + 1) (ls) (.long (h.2.2.1 a j.toNatClampNeg) :: r1) (h)) : zGo p l e R s m args below meth c D adK b z0 mL ws0 mc ms r h' (pc) (ls) (.int j :: .ref a :: r1) (h) := by
  intro H locs cells slots tys ws rst LS lv b1 b2 hK hP hD hS hR hE hv hl hL
  obtain ⟨hx, hb, hr, hml, hown, hlocks, hname, hexc⟩ := X
  obtain ⟨_, _, rfl, rfl, _, _, rfl, ⟨x, hx9, rfl⟩, hv⟩ := hv
  obtain ⟨e9, h1, cA, hty, rfl⟩ := hR.row ha hx9
  obtain ⟨t0, ht0⟩ := List.getElem?_of_mem hty
  exact va_lald hx hb hK hP a t0 h1 ht0 hj hd (K H locs cells slots tys ws _ LS lv b1 b2 hK hP hD hS hR hE ⟨_, _, rfl, rfl, hv⟩ hl hL)

theorem zs_saload (X : zFr p s m meth c y cc mL ret hh) {j : Int32} {f : UInt32} (hEW : zEW adK b z0 E s s.heap) (hj : vp_in j E.1) (hd : decode cc pc = .ok (.iaload, 1)) (K : zGo p l e R s m args below meth c D adK b z0 mL ws0 mc ms r h' (pc + 1) (ls) (.int (E.2 j.toNatClampNeg) :: r1) (h)) : zGo p l e R s m args below meth c D adK b z0 mL ws0 mc ms r h' (pc) (ls) (.int j :: .float f :: r1) (h) := by
  intro H locs cells slots tys ws rst LS lv b1 b2 hK hP hD hS hR hE hv hl hL
  obtain ⟨hx, hb, hr, hml, hown, hlocks, hname, hexc⟩ := X
  obtain ⟨_, _, rfl, rfl, _, _, rfl, rfl, hv⟩ := hv
  obtain ⟨-, -, -, -, -, hX, hb0, -, hz⟩ := hEW
  exact va_sld hx hb hX (Nat.lt_of_lt_of_le hb0 hz) (Nat.not_le.mpr hb0) hS hj hd (K H locs cells slots tys ws _ LS lv b1 b2 hK hP hD hS hR hE ⟨_, _, rfl, rfl, hv⟩ hl hL)

theorem zs_salen (X : zFr p s m meth c y cc mL ret hh) {f : UInt32} (hEW : zEW adK b z0 E s s.heap) (hd : decode cc pc = .ok (.arraylength, 1)) (K : zGo p l e R s m args below meth c D adK b z0 mL ws0 mc ms r h' (pc + 1) (ls) (.int (Int32.ofNat E.1) :: r1) (h)) : zGo p l e R s m args below meth c D adK b z0 mL ws0 mc ms r h' (pc) (ls) (.float f :: r1) (h) := by
  intro H locs cells slots tys ws rst LS lv b1 b2 hK hP hD hS hR hE hv hl hL
  obtain ⟨hx, hb, hr, hml, hown, hlocks, hname, hexc⟩ := X
  obtain ⟨_, _, rfl, rfl, hv⟩ := hv
  obtain ⟨-, -, -, -, -, hX, hb0, -, hz⟩ := hEW
  exact va_slen hx hb hX (Nat.lt_of_lt_of_le hb0 hz) (Nat.not_le.mpr hb0) hS hd (K H locs cells slots tys ws _ LS lv b1 b2 hK hP hD hS hR hE ⟨_, _, rfl, rfl, hv⟩ hl hL)

theorem zs_alen (X : zFr p s m meth c y cc mL ret hh) {a t n : Nat} {rf : List (Option Nat)} (ha : zat h.1 a = some (.inl (t, n, rf))) (hd : decode cc pc = .ok (.arraylength, 1)) (K : zGo p l e R s m args below meth c D adK b z0 mL ws0 mc ms r h' (pc + 1) (ls) (.int (Int32.ofNat n) :: r1) (h)) : zGo p l e R s m args below meth c D adK b z0 mL ws0 mc ms r h' (pc) (ls) (.ref a :: r1) (h) := by
  intro H locs cells slots tys ws rst LS lv b1 b2 hK hP hD hS hR hE hv hl hL
  obtain ⟨hx, hb, hr, hml, hown, hlocks, hname, hexc⟩ := X
  obtain ⟨_, _, rfl, ⟨x, hx9, rfl⟩, hv⟩ := hv
  obtain ⟨e9, h1, cA, hty, he⟩ := hR.row ha hx9
  obtain ⟨t0, ht0⟩ := List.getElem?_of_mem hty
  have he2 : ∃ z, e9 = .inl (cA, n, z) := by
    match t, he with
    | 0, he => exact ⟨_, he⟩
    | 1, he => exact ⟨_, he⟩
    | 2, he => exact ⟨_, he⟩
    | t + 3, ⟨g, _, he, _⟩ => exact ⟨_, he⟩
  obtain ⟨z, rfl⟩ := he2
  exact va_alen hx hb hK hP a t0 h1 ht0 rfl hd (K H locs cells slots tys ws _ LS lv b1 b2 hK hP hD hS hR hE ⟨_, _, rfl, rfl, hv⟩ hl hL)

theorem zs_aaload (X : zFr p s m meth c y cc mL ret hh) {j : Int32} {a t n : Nat} {rf : List (Option Nat)} {o : Option Nat} (ha : zat h.1 a = some (.inl (t, n, rf))) (ht : 3 ≤ t) (hj : vp_in j n) (ho : zat rf j.toNatClampNeg = some o) (hd : decode cc pc = .ok (.aaload, 1)) (K : zGo p l e R s m args below meth c D adK b z0 mL ws0 mc ms r h' (pc + 1) (ls) (zrf o :: r1) (h)) : zGo p l e R s m args below meth c D adK b z0 mL ws0 mc ms r h' (pc) (ls) (.int j :: .ref a :: r1) (h) := by
  intro H locs cells slots tys ws rst LS lv b1 b2 hK hP hD hS hR hE hv hl hL
  obtain ⟨hx, hb, hr, hml, hown, hlocks, hname, hexc⟩ := X
  obtain ⟨_, _, rfl, rfl, _, _, rfl, ⟨x, hx9, rfl⟩, hv⟩ := hv
  obtain ⟨e9, h1, cA, hty, he⟩ := hR.row ha hx9
  obtain ⟨t0, ht0⟩ := List.getElem?_of_mem hty
  obtain ⟨t, rfl⟩ : ∃ u, t = u + 3 := ⟨t - 3, by omega⟩
  obtain ⟨g, h4, rfl, h5⟩ := he
  obtain ⟨CN, hCN⟩ : ∃ CN, zaty (t + 3) = .object CN := by
    cases t with
    | zero => exact ⟨RX0, rfl⟩
    | succ t => exact ⟨RX1, rfl⟩
  rw [hCN] at ht0
  have h6 : zV adK b ws (zrf o) (va_rf (g j.toNatClampNeg)) := by
    have h7 := h5 _ _ ho
    cases o with
    | none => rw [h7]; exact rfl
    | some k => obtain ⟨q, h8, h9⟩ := h7; rw [h9]; exact ⟨q, h8, rfl⟩
  exact va_aldq hx hb hK hP a t0 h1 ht0 hj hd (K H locs cells slots tys ws _ LS lv b1 b2 hK hP hD hS hR hE ⟨_, _, rfl, h6, hv⟩ hl hL)

theorem zs_iastore (X : zFr p s m meth c y cc mL ret hh) {j : Int32} {x9 : Int32} {a n : Nat} {rf : List (Option Nat)} (ha : zat h.1 a = some (.inl (0, n, rf))) (hj : vp_in j n) (hd : decode cc pc = .ok (.iastore, 1)) (K : zGo p l e R s m args below meth c D adK b z0 mL ws0 mc ms r h' (pc + 1) (ls) (r1) (zsetI h a (upd (h.2.1 a) j.toNatClampNeg x9))) : zGo p l e R s m args below meth c D adK b z0 mL ws0 mc ms r h' (pc) (ls) (.int x9 :: .int j :: .ref a :: r1) (h) := by
  intro H locs cells slots tys ws rst LS lv b1 b2 hK hP hD hS hR hE hv hl hL
  obtain ⟨hx, hb, hr, hml, hown, hlocks, hname, hexc⟩ := X
  obtain ⟨_, _, rfl, rfl, _, _, rfl, rfl, _, _, rfl, ⟨x, hx9, rfl⟩, hv⟩ := hv
  obtain ⟨e9, h1, cA, hty, rfl⟩ := hR.row ha hx9
  obtain ⟨t0, ht0⟩ := List.getElem?_of_mem hty
  exact va_iast hx hb hK hP hD hS a t0 h1 ht0 hj hd (fun H1 locs1 hP1 hD1 hS1 => K H1 locs1 cells slots tys _ _ LS lv b1 b2 hK hP1 hD1 hS1 (hR.setI ha h1 ⟨cA, hty, rfl⟩) (hE.tr (zExt.set h1)) (hv.mono (zExt.set h1)) (hl.mono (zExt.set h1)) hL)

theorem zs_lastore (X : zFr p s m meth c y cc mL ret hh) {j : Int32} {x9 : Int64} {a n : Nat} {rf : List (Option Nat)} (ha : zat h.1 a = some (.inl (2, n, rf))) (hj : vp_in j n) (hd : decode cc pc = .ok (.lastore, 1)) (K : zGo p l e R s m args below meth c D adK b z0 mL ws0 mc ms r h' (pc + 1) (ls) (r1) (zsetJ h a (vp_updL (h.2.2.1 a) j.toNatClampNeg x9))) : zGo p l e R s m args below meth c D adK b z0 mL ws0 mc ms r h' (pc) (ls) (.long x9 :: .int j :: .ref a :: r1) (h) := by
  intro H locs cells slots tys ws rst LS lv b1 b2 hK hP hD hS hR hE hv hl hL
  obtain ⟨hx, hb, hr, hml, hown, hlocks, hname, hexc⟩ := X
  obtain ⟨_, _, rfl, rfl, _, _, rfl, rfl, _, _, rfl, ⟨x, hx9, rfl⟩, hv⟩ := hv
  obtain ⟨e9, h1, cA, hty, rfl⟩ := hR.row ha hx9
  obtain ⟨t0, ht0⟩ := List.getElem?_of_mem hty
  exact va_last hx hb hK hP hD hS a t0 h1 ht0 hj hd (fun H1 locs1 hP1 hD1 hS1 => K H1 locs1 cells slots tys _ _ LS lv b1 b2 hK hP1 hD1 hS1 (hR.setJ ha h1 ⟨cA, hty, rfl⟩) (hE.tr (zExt.set h1)) (hv.mono (zExt.set h1)) (hl.mono (zExt.set h1)) hL)

theorem zs_bastore (X : zFr p s m meth c y cc mL ret hh) {j x9 : Int32} {a n : Nat} {rf : List (Option Nat)} (ha : zat h.1 a = some (.inl (1, n, rf))) (hj : vp_in j n) (hd : decode cc pc = .ok (.bastore, 1)) (K : zGo p l e R s m args below meth c D adK b z0 mL ws0 mc ms r h' (pc + 1) (ls) (r1) (zsetI h a (upd (h.2.1 a) j.toNatClampNeg x9.toInt8.toInt32))) : zGo p l e R s m args below meth c D adK b z0 mL ws0 mc ms r h' (pc) (ls) (.int x9 :: .int j :: .ref a :: r1) (h) := by
  intro H locs cells slots tys ws rst LS lv b1 b2 hK hP hD hS hR hE hv hl hL
  obtain ⟨hx, hb, hr, hml, hown, hlocks, hname, hexc⟩ := X
  obtain ⟨_, _, rfl, rfl, _, _, rfl, rfl, _, _, rfl, ⟨x, hx9, rfl⟩, hv⟩ := hv
  obtain ⟨e9, h1, cA, hty, rfl⟩ := hR.row ha hx9
  obtain ⟨t0, ht0⟩ := List.getElem?_of_mem hty
  exact va_bast hx hb hK hP hD hS a t0 h1 ht0 hj hd (fun H1 locs1 hP1 hD1 hS1 => K H1 locs1 cells slots tys _ _ LS lv b1 b2 hK hP1 hD1 hS1 (hR.setI ha h1 ⟨cA, hty, by rw [vp_nar_byte]; exact rfl⟩) (hE.tr (zExt.set h1)) (hv.mono (zExt.set h1)) (hl.mono (zExt.set h1)) hL)

theorem zs_aastore (X : zFr p s m meth c y cc mL ret hh) {j : Int32} {q a k n : Nat} {rf : List (Option Nat)} {sl : List (Option (Option Nat))} (ha : zat h.1 a = some (.inl (k + 3, n, rf))) (hj : vp_in j n) (hq : zat h.1 q = some (.inr (.inl (k, sl)))) (hd : decode cc pc = .ok (.aastore, 1)) (K : zGo p l e R s m args below meth c D adK b z0 mL ws0 mc ms r h' (pc + 1) (ls) (r1) (zsetS h a (.inl (k + 3, n, zset rf j.toNatClampNeg (some q))))) : zGo p l e R s m args below meth c D adK b z0 mL ws0 mc ms r h' (pc) (ls) (.ref q :: .int j :: .ref a :: r1) (h) := by
  intro H locs cells slots tys ws rst LS lv b1 b2 hK hP hD hS hR hE hv hl hL
  obtain ⟨hx, hb, hr, hml, hown, hlocks, hname, hexc⟩ := X
  obtain ⟨_, _, rfl, ⟨xq, hxq, rfl⟩, _, _, rfl, rfl, _, _, rfl, ⟨x, hx9, rfl⟩, hv⟩ := hv
  obtain ⟨e9, h1, cA, hty, g, h4, rfl, h5⟩ := hR.row ha hx9
  obtain ⟨t0, ht0⟩ := List.getElem?_of_mem hty
  obtain ⟨fs, h6, -⟩ := hR.obj hq hxq
  obtain ⟨CR, hCR, hCN⟩ : ∃ CR : vw_C, vwCl[k]? = some CR ∧ zaty (k + 3) = .object CR.1 := by
    match k, h4 with
    | 0, _ => exact ⟨_, rfl, rfl⟩
    | 1, _ => exact ⟨_, rfl, rfl⟩
  rw [hCN] at ht0
  refine va_astq hx hb hK hP hD hS a t0 q k h1 ht0 h6 hCR hj hd (fun H1 locs1 hP1 hD1 hS1 => K H1 locs1 cells slots tys _ _ LS lv b1 b2 hK hP1 hD1 hS1 ?_ (hE.tr (zExt.set h1)) (hv.mono (zExt.set h1)) (hl.mono (zExt.set h1)) hL)
  refine hR.setS h1 ⟨cA, hty, _, h4, rfl, fun i o hi => ?_⟩
  rw [zset_eq, zat_eq] at hi
  by_cases hij : i = j.toNatClampNeg
  · subst hij
    have hlt := (List.getElem?_eq_some_iff.mp hi).1
    rw [List.length_set] at hlt
    rw [List.getElem?_set_self hlt] at hi
    cases hi
    exact ⟨xq, hxq, by simp [va_up]⟩
  · rw [List.getElem?_set_ne (fun z => hij z.symm), ← zat_eq] at hi
    have h8 := h5 i o hi
    have e1 : va_up g j.toNatClampNeg (some xq) i = g i := by simp [va_up, hij]
    cases o with
    | none => rw [e1]; exact h8
    | some o => rw [e1]; exact h8

theorem zs_new (X : zFr p s m meth c y cc mL ret hh) {i ci N : Nat} {C : String} {T : u_T} {sl : List (Option (Option Nat))} (hc : zat vwCl ci = some (C, T, N)) (hsl : zat zcsh ci = some sl) (hT : zTW s) (hlk : (Jvm.Cond.classLink y.cls i C).before args s = true) (hz : z0 ≤ s.heap.size) (hle : zleH (zpush h (.inr (.inl (ci, sl))) sl.length) h') (hmc : mc ≤ R.cells) (hms : ms ≤ R.slots) (hd : decode cc pc = .ok (.new i, 3)) (K : zGo p l e R s m args below meth c D adK b z0 mL ws0 mc ms r h' (pc + 3) (ls) (.ref h.1.length :: st) (zpush h (.inr (.inl (ci, sl))) sl.length)) : zGo p l e R s m args below meth c D adK b z0 mL ws0 mc ms r h' (pc) (ls) (st) (h) := by
  intro H locs cells slots tys ws rst LS lv b1 b2 hK hP hD hS hR hE hv hl hL
  obtain ⟨hx, hb, hr, hml, hown, hlocks, hname, hexc⟩ := X
  have hF := zclF _ _ _ _ hc
  rw [zat_eq] at hc
  have h1 := hF.2.2.2.2.2 sl hsl
  simp only [zshchk, Bool.and_eq_true] at h1
  have hN : sl.length = N := zbeq h1.1
  subst hN
  have h2 : ∀ k, k < sl.length → ∃ o, zat sl k = some o ∧ (o = none ∨ o = some none) ∧ zkind (zcty ci k) o = true := by
    intro k hk
    have h3 := List.all_eq_true.mp h1.2 k (List.mem_range.mpr hk)
    split at h3
    · exact ⟨_, by assumption, Or.inl rfl, h3⟩
    · exact ⟨_, by assumption, Or.inr rfl, h3⟩
    · cases h3
  have h4 : h.2.2.2.1 + 1 ≤ h'.2.2.2.1 ∧ h.2.2.2.2 + sl.length ≤ h'.2.2.2.2 := hle
  refine va_new (fs := sl.map zdef) (Ts := u_ws C T sl.length) hx hb (zcl_ts hF hT) (fun _ h => h) (zcty ci) hF.2.1 hown hlk (hT _ hF.2.2.2.1 rfl _) (hT _ hF.2.2.2.2.1 rfl _) hK hP hD hS (fun q hq => Nat.le_trans hz hq) hc ?_ (by omega) (by omega) hd (fun q H1 hP1 hD1 hS1 => ?_)
  · intro j hj
    obtain ⟨o, h5, h6, h7⟩ := h2 j hj
    rw [zat_eq] at h5
    have h8 : vp_V (sl.map zdef) j = zdef o := by
      unfold vp_V
      rw [List.getD_eq_getElem?_getD, List.getElem?_map, h5]
      rfl
    rw [h8]
    rcases h6 with rfl | rfl <;> cases hty : zcty ci j <;> rw [hty] at h7 <;> first | rfl | cases h7
  · have hx1 := zExt.app ws (q, .inr (ci, sl.map zdef))
    have hq : zad (ws ++ [(q, .inr (ci, sl.map zdef))]) h.1.length q := ⟨.inr (ci, sl.map zdef), by rw [← hR.1, List.getElem?_append_right (Nat.le_refl _), Nat.sub_self]; rfl⟩
    refine K H1 locs (cells + 1) (slots + sl.length) tys _ _ LS lv (by show _ ≤ mc + (h.2.2.2.1 + 1); omega) (by show _ ≤ ms + (h.2.2.2.2 + sl.length); omega) hK hP1 hD1 hS1 (hR.push (fun _ h => h) ⟨_, rfl, fun k o hk => ?_⟩) (hE.tr hx1) ⟨_, _, rfl, ⟨q, hq, rfl⟩, hv.mono hx1⟩ (hl.mono hx1) hL
    · have hlt : k < sl.length := by rw [zat_eq] at hk; exact (List.getElem?_eq_some_iff.mp hk).1
      obtain ⟨o', h5, h6, h7⟩ := h2 k hlt
      cases h5.symm.trans hk
      rw [zat_eq] at hk
      refine ⟨zdef o, by rw [List.getElem?_map, hk]; rfl, h7, ?_⟩
      rcases h6 with rfl | rfl <;> rfl

theorem zs_newa0 (X : zFr p s m meth c y cc mL ret hh) {at9 : ArrayType} {n : Int32} (hat : newarray.typeOf at9 = .int) (hw : (Jvm.Cond.arrayClass (newarray.typeOf at9)).before args s = true) (hn : ¬ n < 0) (hn2 : n.toNatClampNeg ≤ 100000) (hz : z0 ≤ s.heap.size) (hle : zleH (zpush h (.inl (0, n.toNatClampNeg, [])) n.toNatClampNeg) h') (hmc : mc ≤ R.cells) (hms : ms ≤ R.slots) (hd : decode cc pc = .ok (.newarray at9, 2)) (K : zGo p l e R s m args below meth c D adK b z0 mL ws0 mc ms r h' (pc + 2) (ls) (.ref h.1.length :: r1) (zpush h (.inl (0, n.toNatClampNeg, [])) n.toNatClampNeg)) : zGo p l e R s m args below meth c D adK b z0 mL ws0 mc ms r h' (pc) (ls) (.int n :: r1) (h) := by
  intro H locs cells slots tys ws rst LS lv b1 b2 hK hP hD hS hR hE hv hl hL
  obtain ⟨hx, hb, hr, hml, hown, hlocks, hname, hexc⟩ := X
  obtain ⟨_, _, rfl, rfl, hv⟩ := hv
  have h4 : h.2.2.2.1 + 1 ≤ h'.2.2.2.1 ∧ h.2.2.2.2 + n.toNatClampNeg ≤ h'.2.2.2.2 := hle
  refine va_newa (a0 := (n.toNatClampNeg, .inl (fun _ => 0))) hx hb hw hat hK hP hD hS (fun q hq => Nat.le_trans hz hq) (fun _ => rfl) hn rfl (by show _ * 4 ≤ _; omega) (by omega) (by omega) hd (fun q cA H1 hK1 hP1 hD1 hS1 => ?_)
  have hx1 := zExt.app ws (q, .inl (cA, n.toNatClampNeg, .inl (fun _ => 0)))
  have hq : zad (ws ++ [(q, .inl (cA, n.toNatClampNeg, .inl (fun _ => 0)))]) h.1.length q := ⟨.inl (cA, n.toNatClampNeg, .inl (fun _ => 0)), by rw [← hR.1, List.getElem?_append_right (Nat.le_refl _), Nat.sub_self]; rfl⟩
  exact K H1 locs (cells + 1) (slots + n.toNatClampNeg) _ _ _ LS lv (by show _ ≤ mc + (h.2.2.2.1 + 1); omega) (by show _ ≤ ms + (h.2.2.2.2 + n.toNatClampNeg); omega) hK1 hP1 hD1 hS1 (hR.push (fun _ h => List.mem_append_left _ h) ⟨cA, List.mem_append_right _ (List.mem_singleton_self _), rfl⟩) (hE.tr hx1) ⟨_, _, rfl, ⟨q, hq, rfl⟩, hv.mono hx1⟩ (hl.mono hx1) hL

theorem zs_newa1 (X : zFr p s m meth c y cc mL ret hh) {at9 : ArrayType} {n : Int32} (hat : newarray.typeOf at9 = .byte) (hw : (Jvm.Cond.arrayClass (newarray.typeOf at9)).before args s = true) (hn : ¬ n < 0) (hn2 : n.toNatClampNeg ≤ 100000) (hz : z0 ≤ s.heap.size) (hle : zleH (zpush h (.inl (1, n.toNatClampNeg, [])) n.toNatClampNeg) h') (hmc : mc ≤ R.cells) (hms : ms ≤ R.slots) (hd : decode cc pc = .ok (.newarray at9, 2)) (K : zGo p l e R s m args below meth c D adK b z0 mL ws0 mc ms r h' (pc + 2) (ls) (.ref h.1.length :: r1) (zpush h (.inl (1, n.toNatClampNeg, [])) n.toNatClampNeg)) : zGo p l e R s m args below meth c D adK b z0 mL ws0 mc ms r h' (pc) (ls) (.int n :: r1) (h) := by
  intro H locs cells slots tys ws rst LS lv b1 b2 hK hP hD hS hR hE hv hl hL
  obtain ⟨hx, hb, hr, hml, hown, hlocks, hname, hexc⟩ := X
  obtain ⟨_, _, rfl, rfl, hv⟩ := hv
  have h4 : h.2.2.2.1 + 1 ≤ h'.2.2.2.1 ∧ h.2.2.2.2 + n.toNatClampNeg ≤ h'.2.2.2.2 := hle
  refine va_newa (a0 := (n.toNatClampNeg, .inl (fun _ => 0))) hx hb hw hat hK hP hD hS (fun q hq => Nat.le_trans hz hq) (fun _ => rfl) hn rfl (by show _ * 1 ≤ _; omega) (by omega) (by omega) hd (fun q cA H1 hK1 hP1 hD1 hS1 => ?_)
  have hx1 := zExt.app ws (q, .inl (cA, n.toNatClampNeg, .inl (fun _ => 0)))
  have hq : zad (ws ++ [(q, .inl (cA, n.toNatClampNeg, .inl (fun _ => 0)))]) h.1.length q := ⟨.inl (cA, n.toNatClampNeg, .inl (fun _ => 0)), by rw [← hR.1, List.getElem?_append_right (Nat.le_refl _), Nat.sub_self]; rfl⟩
  exact K H1 locs (cells + 1) (slots + n.toNatClampNeg) _ _ _ LS lv (by show _ ≤ mc + (h.2.2.2.1 + 1); omega) (by show _ ≤ ms + (h.2.2.2.2 + n.toNatClampNeg); omega) hK1 hP1 hD1 hS1 (hR.push (fun _ h => List.mem_append_left _ h) ⟨cA, List.mem_append_right _ (List.mem_singleton_self _), rfl⟩) (hE.tr hx1) ⟨_, _, rfl, ⟨q, hq, rfl⟩, hv.mono hx1⟩ (hl.mono hx1) hL

theorem zs_newa2 (X : zFr p s m meth c y cc mL ret hh) {at9 : ArrayType} {n : Int32} (hat : newarray.typeOf at9 = .long) (hw : (Jvm.Cond.arrayClass (newarray.typeOf at9)).before args s = true) (hn : ¬ n < 0) (hn2 : n.toNatClampNeg ≤ 100000) (hz : z0 ≤ s.heap.size) (hle : zleH (zpush h (.inl (2, n.toNatClampNeg, [])) n.toNatClampNeg) h') (hmc : mc ≤ R.cells) (hms : ms ≤ R.slots) (hd : decode cc pc = .ok (.newarray at9, 2)) (K : zGo p l e R s m args below meth c D adK b z0 mL ws0 mc ms r h' (pc + 2) (ls) (.ref h.1.length :: r1) (zpush h (.inl (2, n.toNatClampNeg, [])) n.toNatClampNeg)) : zGo p l e R s m args below meth c D adK b z0 mL ws0 mc ms r h' (pc) (ls) (.int n :: r1) (h) := by
  intro H locs cells slots tys ws rst LS lv b1 b2 hK hP hD hS hR hE hv hl hL
  obtain ⟨hx, hb, hr, hml, hown, hlocks, hname, hexc⟩ := X
  obtain ⟨_, _, rfl, rfl, hv⟩ := hv
  have h4 : h.2.2.2.1 + 1 ≤ h'.2.2.2.1 ∧ h.2.2.2.2 + n.toNatClampNeg ≤ h'.2.2.2.2 := hle
  refine va_newa (a0 := (n.toNatClampNeg, .inr (.inl (fun _ => 0)))) hx hb hw hat hK hP hD hS (fun q hq => Nat.le_trans hz hq) (fun _ => rfl) hn rfl (by show _ * 8 ≤ _; omega) (by omega) (by omega) hd (fun q cA H1 hK1 hP1 hD1 hS1 => ?_)
  have hx1 := zExt.app ws (q, .inl (cA, n.toNatClampNeg, .inr (.inl (fun _ => 0))))
  have hq : zad (ws ++ [(q, .inl (cA, n.toNatClampNeg, .inr (.inl (fun _ => 0))))]) h.1.length q := ⟨.inl (cA, n.toNatClampNeg, .inr (.inl (fun _ => 0))), by rw [← hR.1, List.getElem?_append_right (Nat.le_refl _), Nat.sub_self]; rfl⟩
  exact K H1 locs (cells + 1) (slots + n.toNatClampNeg) _ _ _ LS lv (by show _ ≤ mc + (h.2.2.2.1 + 1); omega) (by show _ ≤ ms + (h.2.2.2.2 + n.toNatClampNeg); omega) hK1 hP1 hD1 hS1 (hR.push (fun _ h => List.mem_append_left _ h) ⟨cA, List.mem_append_right _ (List.mem_singleton_self _), rfl⟩) (hE.tr hx1) ⟨_, _, rfl, ⟨q, hq, rfl⟩, hv.mono hx1⟩ (hl.mono hx1) hL

theorem zs_anew3 (X : zFr p s m meth c y cc mL ret hh) {i : Nat} {n : Int32} (hlk : (Jvm.Cond.classLink y.cls i RX0).before args s = true) (hw : (Jvm.Cond.arrayOver (.object RX0)).before #[] s = true) (hn : ¬ n < 0) (hn2 : n.toNatClampNeg ≤ 100000) (hz : z0 ≤ s.heap.size) (hle : zleH (zpush h (.inl (3, n.toNatClampNeg, List.replicate n.toNatClampNeg none)) n.toNatClampNeg) h') (hmc : mc ≤ R.cells) (hms : ms ≤ R.slots) (hd : decode cc pc = .ok (.anewarray i, 3)) (K : zGo p l e R s m args below meth c D adK b z0 mL ws0 mc ms r h' (pc + 3) (ls) (.ref h.1.length :: r1) (zpush h (.inl (3, n.toNatClampNeg, List.replicate n.toNatClampNeg none)) n.toNatClampNeg)) : zGo p l e R s m args below meth c D adK b z0 mL ws0 mc ms r h' (pc) (ls) (.int n :: r1) (h) := by
  intro H locs cells slots tys ws rst LS lv b1 b2 hK hP hD hS hR hE hv hl hL
  obtain ⟨hx, hb, hr, hml, hown, hlocks, hname, hexc⟩ := X
  obtain ⟨_, _, rfl, rfl, hv⟩ := hv
  have h4 : h.2.2.2.1 + 1 ≤ h'.2.2.2.1 ∧ h.2.2.2.2 + n.toNatClampNeg ≤ h'.2.2.2.2 := hle
  refine va_newq (C := RX0) hx hb hown hlk hw hK hP hD hS (fun q hq => Nat.le_trans hz hq) hn rfl (by omega) (by omega) (by omega) hd (fun q cA H1 hK1 hP1 hD1 hS1 => ?_)
  have hx1 := zExt.app ws (q, .inl (cA, n.toNatClampNeg, .inr (.inr (.inr (.inr (fun _ => none))))))
  have hq : zad (ws ++ [(q, .inl (cA, n.toNatClampNeg, .inr (.inr (.inr (.inr (fun _ => none))))))]) h.1.length q := ⟨.inl (cA, n.toNatClampNeg, .inr (.inr (.inr (.inr (fun _ => none))))), by rw [← hR.1, List.getElem?_append_right (Nat.le_refl _), Nat.sub_self]; rfl⟩
  refine K H1 locs (cells + 1) (slots + n.toNatClampNeg) _ _ _ LS lv (by show _ ≤ mc + (h.2.2.2.1 + 1); omega) (by show _ ≤ ms + (h.2.2.2.2 + n.toNatClampNeg); omega) hK1 hP1 hD1 hS1 (hR.push (fun _ h => List.mem_append_left _ h) ⟨cA, List.mem_append_right _ (List.mem_singleton_self _), _, by decide, rfl, fun j o hj => ?_⟩) (hE.tr hx1) ⟨_, _, rfl, ⟨q, hq, rfl⟩, hv.mono hx1⟩ (hl.mono hx1) hL
  rw [zat_eq] at hj
  obtain ⟨h7, h8⟩ := List.getElem?_eq_some_iff.mp hj
  rw [List.getElem_replicate] at h8
  subst h8
  rfl

theorem zs_anew4 (X : zFr p s m meth c y cc mL ret hh) {i : Nat} {n : Int32} (hlk : (Jvm.Cond.classLink y.cls i RX1).before args s = true) (hw : (Jvm.Cond.arrayOver (.object RX1)).before #[] s = true) (hn : ¬ n < 0) (hn2 : n.toNatClampNeg ≤ 100000) (hz : z0 ≤ s.heap.size) (hle : zleH (zpush h (.inl (4, n.toNatClampNeg, List.replicate n.toNatClampNeg none)) n.toNatClampNeg) h') (hmc : mc ≤ R.cells) (hms : ms ≤ R.slots) (hd : decode cc pc = .ok (.anewarray i, 3)) (K : zGo p l e R s m args below meth c D adK b z0 mL ws0 mc ms r h' (pc + 3) (ls) (.ref h.1.length :: r1) (zpush h (.inl (4, n.toNatClampNeg, List.replicate n.toNatClampNeg none)) n.toNatClampNeg)) : zGo p l e R s m args below meth c D adK b z0 mL ws0 mc ms r h' (pc) (ls) (.int n :: r1) (h) := by
  intro H locs cells slots tys ws rst LS lv b1 b2 hK hP hD hS hR hE hv hl hL
  obtain ⟨hx, hb, hr, hml, hown, hlocks, hname, hexc⟩ := X
  obtain ⟨_, _, rfl, rfl, hv⟩ := hv
  have h4 : h.2.2.2.1 + 1 ≤ h'.2.2.2.1 ∧ h.2.2.2.2 + n.toNatClampNeg ≤ h'.2.2.2.2 := hle
  refine va_newq (C := RX1) hx hb hown hlk hw hK hP hD hS (fun q hq => Nat.le_trans hz hq) hn rfl (by omega) (by omega) (by omega) hd (fun q cA H1 hK1 hP1 hD1 hS1 => ?_)
  have hx1 := zExt.app ws (q, .inl (cA, n.toNatClampNeg, .inr (.inr (.inr (.inr (fun _ => none))))))
  have hq : zad (ws ++ [(q, .inl (cA, n.toNatClampNeg, .inr (.inr (.inr (.inr (fun _ => none))))))]) h.1.length q := ⟨.inl (cA, n.toNatClampNeg, .inr (.inr (.inr (.inr (fun _ => none))))), by rw [← hR.1, List.getElem?_append_right (Nat.le_refl _), Nat.sub_self]; rfl⟩
  refine K H1 locs (cells + 1) (slots + n.toNatClampNeg) _ _ _ LS lv (by show _ ≤ mc + (h.2.2.2.1 + 1); omega) (by show _ ≤ ms + (h.2.2.2.2 + n.toNatClampNeg); omega) hK1 hP1 hD1 hS1 (hR.push (fun _ h => List.mem_append_left _ h) ⟨cA, List.mem_append_right _ (List.mem_singleton_self _), _, by decide, rfl, fun j o hj => ?_⟩) (hE.tr hx1) ⟨_, _, rfl, ⟨q, hq, rfl⟩, hv.mono hx1⟩ (hl.mono hx1) hL
  rw [zat_eq] at hj
  obtain ⟨h7, h8⟩ := List.getElem?_eq_some_iff.mp hj
  rw [List.getElem_replicate] at h8
  subst h8
  rfl

end ZHEAP
