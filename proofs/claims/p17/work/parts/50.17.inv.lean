/-! CALLS OF THE TABLE'S METHODS, AND THE WHOLE -/
def zlx (x : Nat) : Nat := match x with
  | 0 => 13
  | 1 => 15
  | 2 => 24
  | _ => 26
set_option maxRecDepth 100000 in
theorem zlx_ne (x : Nat) : zlx x ≠ 0 := by unfold zlx; split <;> decide
set_option maxRecDepth 100000 in
theorem zlx_link : ∀ x X, zat zxn x = some X → Jvm.Cond.classLink "SandHouseLaw" (zlx x) X ∈ lw_tbl
  | 0, X, h => by cases (Option.some.inj h); exact zin 808 rfl
  | 1, X, h => by cases (Option.some.inj h); exact zin 809 rfl
  | 2, X, h => by cases (Option.some.inj h); exact zin 1122 rfl
  | 3, X, h => by cases (Option.some.inj h); exact zin 1123 rfl
  | n + 4, X, h => by simp [zxn, zat] at h
def zhf (e : Nat × Nat × Nat × Nat) : Nat × Nat × Nat × Nat := (e.1, e.2.1, e.2.2.1, zlx e.2.2.2)
def zhchk : Nat → List (MethodName × ByteArray × Nat × Option FieldType × List (Nat × Nat × Nat × Nat) × Nat × Nat × Nat × Nat) → Bool
  | _, [] => true
  | j, (y, _, _, ret, hh, _) :: l => (match zat zhs j with
    | none => decide (hh = [])
    | some hs => decide (hh = hs.map zhf) && hs.all (fun e => Nat.blt e.2.2.2 4) && (decide (hs = []) || decide (y.cls = "SandHouseLaw"))) && (decide (y.name ≠ "<init>") || decide (ret = none)) && (decide (y.cls ≠ "SandHouse") || decide (hh = [])) && zhchk (j + 1) l
set_option maxRecDepth 100000 in
theorem zhok : zhchk 0 zmn = true := by decide +kernel
set_option maxRecDepth 100000 in
theorem zhchk_at : ∀ {l : List (MethodName × ByteArray × Nat × Option FieldType × List (Nat × Nat × Nat × Nat) × Nat × Nat × Nat × Nat)} {b j : Nat} {y : MethodName} {cc : ByteArray} {mL : Nat} {ret : Option FieldType} {hh : List (Nat × Nat × Nat × Nat)} {q : Nat × Nat × Nat × Nat}, zhchk b l = true → zat l j = some (y, cc, mL, ret, hh, q) →
    (zat zhs (b + j) = none → hh = []) ∧ (∀ hs, zat zhs (b + j) = some hs → hh = hs.map zhf ∧ (∀ e ∈ hs, e.2.2.2 < 4) ∧ (hs = [] ∨ y.cls = "SandHouseLaw")) ∧ (y.name = "<init>" → ret = none) ∧ (y.cls = "SandHouse" → hh = [])
  | [], _, j, _, _, _, _, _, _, _, h => by cases j <;> cases h
  | (y', cc', mL', ret', hh', q') :: l, b, 0, y, cc, mL, ret, hh, q, h1, h2 => by
    cases (Option.some.inj h2)
    simp only [zhchk, Bool.and_eq_true, Bool.or_eq_true, decide_eq_true_eq] at h1
    obtain ⟨⟨⟨h3, h4⟩, h5⟩, -⟩ := h1
    refine ⟨fun hn => ?_, fun hs hn => ?_, fun hi => h4.resolve_left (fun z => z hi), fun hi => h5.resolve_left (fun z => z hi)⟩
    · rw [show b + 0 = b from rfl] at hn
      rw [hn] at h3
      exact of_decide_eq_true h3
    · rw [show b + 0 = b from rfl] at hn
      rw [hn] at h3
      simp only [Bool.and_eq_true, Bool.or_eq_true, decide_eq_true_eq] at h3
      exact ⟨h3.1.1, fun e he => Nat.le_of_ble_eq_true (List.all_eq_true.mp h3.1.2 e he), h3.2⟩
  | _ :: l, b, j + 1, y, cc, mL, ret, hh, q, h1, h2 => by
    simp only [zhchk, Bool.and_eq_true] at h1
    have h3 := zhchk_at (l := l) (b := b + 1) (j := j) h1.2 h2
    rw [show b + (j + 1) = b + 1 + j by omega]
    exact h3
set_option maxRecDepth 100000 in
theorem zh_at {j : Nat} {y : MethodName} {cc : ByteArray} {mL : Nat} {ret : Option FieldType} {hh : List (Nat × Nat × Nat × Nat)} {q : Nat × Nat × Nat × Nat} (h : zat zmn j = some (y, cc, mL, ret, hh, q)) :
    (zat zhs j = none → hh = []) ∧ (∀ hs, zat zhs j = some hs → hh = hs.map zhf ∧ (∀ e ∈ hs, e.2.2.2 < 4) ∧ (hs = [] ∨ y.cls = "SandHouseLaw")) ∧ (y.name = "<init>" → ret = none) ∧ (y.cls = "SandHouse" → hh = []) := by
  have := zhchk_at zhok h
  rw [Nat.zero_add] at this
  exact this
set_option maxRecDepth 100000 in
theorem zkd_ok : zmi.all (fun q => decide (q.2.2.1 = 0 → q.2.2.2.2.2 = 0)) = true := by decide +kernel
set_option maxRecDepth 100000 in
theorem zkd0 {j na mL ci rk kd : Nat} (h : zat zmi j = some (na, mL, 0, ci, rk, kd)) : kd = 0 := by
  rw [zat_eq] at h
  have h1 := List.all_eq_true.mp zkd_ok _ (List.mem_of_getElem? h)
  exact of_decide_eq_true h1 rfl
set_option maxRecDepth 100000 in
theorem zxn_at {x : Nat} (h : x < 4) : ∃ X, zat zxn x = some X := by
  match x, h with
  | 0, _ => exact ⟨_, rfl⟩
  | 1, _ => exact ⟨_, rfl⟩
  | 2, _ => exact ⟨_, rfl⟩
  | 3, _ => exact ⟨_, rfl⟩
set_option maxRecDepth 100000 in
theorem zmn_lt {j : Nat} {v : MethodName × ByteArray × Nat × Option FieldType × List (Nat × Nat × Nat × Nat) × Nat × Nat × Nat × Nat} (h : zat zmn j = some v) : j < 339 := by
  rw [zat_eq] at h
  have h1 := (List.getElem?_eq_some_iff.mp h).1
  have h2 : zmn.length = 339 := by decide +kernel
  omega
section ZSND
variable {p : Program} {l : Launch} {e : Env} {R : Room} {s : State} {m : MethodId} {args : Array Value} {below : List Frame} {meth : Method} {c : Code}
variable {D : va_G} {adK : Nat → Nat} {b z0 : Nat} {E : zE} {y : MethodName} {cc : ByteArray} {mL : Nat} {ret : Option FieldType} {hh : List (Nat × Nat × Nat × Nat)} {q : Nat × Nat × Nat × Nat} {ws0 : va_W} {mc ms : Nat} {r : Option Value ⊕ Nat} {h' : zH}
variable {pc : Nat} {ls : zLs} {st r1 : List Value} {h : zH} {ih : zF} {d mi : Nat}
set_option maxRecDepth 100000 in
theorem zcn {own : String} {index : Nat} {y : MethodName} {bytes : ByteArray} {maxL : Nat} {ret : Option FieldType} {rm : Room} {mc ms n : Nat} (hT : zTW s) (hc : Jvm.Cond.code y bytes maxL ret ∈ lw_tbl) (hi : Jvm.Cond.initialized y.cls ∈ lw_tbl) (hl : Jvm.Cond.methodLinkNest own index y "SandHouse" ∈ lw_tbl)
    (hrc : rm.cells = mc) (hrs : rm.slots = ms) (hf : rm.frames + 1 ≤ R.frames) (hlo : 8 + (maxL + 11) + rm.locals ≤ R.locals) (hy : y.cls ≠ "java/lang/invoke/MethodHandle" ∧ y.cls ≠ "java/lang/invoke/VarHandle") (hn : (parseMethodDescriptor y.desc).map (fun d => d.parameters.length) = some n) :
    va_CN R s args own index y "SandHouse" bytes maxL ret [Jvm.Cond.code y bytes maxL ret] rm mc ms n := by
  refine ⟨⟨hrc, hrs, hf, hlo, fun w hw a' U hW => ?_, List.mem_singleton_self _⟩, hT _ hc rfl _, hT _ hi rfl _, hy, fun sig h => ?_, hT _ hl rfl _⟩
  · rw [List.mem_singleton.mp hw]
    exact (hT.warm hW) _ hc rfl _
  · rw [h] at hn
    exact (Option.some.inj hn).symm
set_option maxRecDepth 100000 in
theorem zcsw {own : String} {index : Nat} {y : MethodName} {bytes : ByteArray} {maxL : Nat} {ret : Option FieldType} {hh : List (Nat × Nat × Nat × Nat)} {rm : Room} {mc ms n : Nat} (hT : zTW s) (hc : Jvm.Cond.codeWith y bytes maxL ret hh ∈ lw_tbl) (hi : Jvm.Cond.initialized y.cls ∈ lw_tbl) (hl : Jvm.Cond.methodLink own index y ∈ lw_tbl) (hst : Jvm.Cond.static y ∈ lw_tbl)
    (hrc : rm.cells = mc) (hrs : rm.slots = ms) (hf : rm.frames + 1 ≤ R.frames) (hlo : 8 + (maxL + 11) + rm.locals ≤ R.locals) (hy : y.cls ≠ "java/lang/invoke/MethodHandle" ∧ y.cls ≠ "java/lang/invoke/VarHandle") (hn : (parseMethodDescriptor y.desc).map (fun d => d.parameters.length) = some n) :
    vx_CSW R s args own index y bytes maxL ret hh [Jvm.Cond.codeWith y bytes maxL ret hh] rm mc ms n := by
  refine ⟨⟨hrc, hrs, hf, hlo, fun w hw a' U hW => ?_, List.mem_singleton_self _⟩, hT _ hc rfl _, hT _ hi rfl _, hy, fun sig h => ?_, hT _ hl rfl _, hT _ hst rfl _⟩
  · rw [List.mem_singleton.mp hw]
    exact (hT.warm hW) _ hc rfl _
  · rw [h] at hn
    exact (Option.some.inj hn).symm
set_option maxRecDepth 100000 in
theorem zafter (X : zFr p s m meth c y cc mL ret hh) (hmi : zat zmn mi = some (y, cc, mL, ret, hh, q)) (hEW : zEW adK b z0 E s s.heap) {H1 : Heap} {locs1 : List Loc} {cells slots : Nat} {tys : List (ClassId × FieldType)} {ws1 : va_W} {LS : Array Slot} {lv : List (Nat × Value)} {rr : List Value} {x : Nat} {XN : String} {ce : Cell} {q9 : Addr} {h1 : zH}
    (hl : zLr adK b ws1 ls lv) (hL : lv_has LS mL lv) (hxn : zat zxn x = some XN) (hce : H1[q9]? = some ce) (hcv : ce.vm = .none) (hcl : s.vm.findClass XN = some ce.cls) (hK : va_K D vwCl tys s) (hP : va_P D vwCl ws1 H1) (hD : va_D (zA z0) ws1) (hS : va_S (zA z0) s.heap H1 locs1) (hR : zRel tys ws1 h1) (hE : zExt ws0 ws1)
    (b1 : cells + h'.2.2.2.1 ≤ mc + h1.2.2.2.1) (b2 : slots + h'.2.2.2.2 ≤ ms + h1.2.2.2.2)
    (hw : (∃ hs t, zat zhs mi = some hs ∧ zhand hs pc x = some t ∧ zGo p l e R s m args below meth c D adK b z0 mL ws0 mc ms r h' t ls [.double 0] h1) ∨ ((zat zhs mi = none ∨ zat zhs mi = some []) ∧ (r, h') = (.inr x, h1))) :
    vx_W p l e R s m args below meth c H1 locs1 cells slots (vx_MQ below (zQc D adK b z0 ws0 r h') (zXC D z0 ws0 r h') args s mc ms (zA z0)) (F0 m pc LS rr) q9 := by
  obtain ⟨hx, hb, hr, hml, hown, hlocks, hname, hexc⟩ := X
  obtain ⟨z1, z2, z3, z4⟩ := zh_at hmi
  rcases hw with ⟨hs, t, hzs, hzh, K⟩ | ⟨hno, heq⟩
  · obtain ⟨e1, e2, e3⟩ := z2 hs hzs
    obtain ⟨pre, suf, s9, e9, f1, f2, f3, f4⟩ := zhand_inv hzh
    have hcls : y.cls = "SandHouseLaw" := by
      rcases e3 with e3 | e3
      · rw [e3] at f1
        cases pre <;> cases f1
      · exact e3
    obtain ⟨hT, hRs, hSt, hUN, hCS, hX9, hb0, hNc, hz⟩ := id hEW
    refine vx_catch (name := XN) (own := y.cls) hown ((pre.map zhf).map fun q => ⟨q.1, q.2.1, q.2.2.1, q.2.2.2⟩) ⟨s9, e9, t, zlx x⟩ ((suf.map zhf).map fun q => ⟨q.1, q.2.1, q.2.2.1, q.2.2.2⟩) ?_ ?_ ?_ (zlx_ne x) (by rw [hcls]; exact hT _ (zlx_link x XN hxn) rfl _) (zcast_of hcl) hce hcv hcl ?_
    · rw [hexc, e1, f1]
      unfold tableOf
      rw [List.map_append, List.map_append]
      rfl
    · intro z hz9
      obtain ⟨z8, hz8, rfl⟩ := List.mem_map.mp hz9
      obtain ⟨z7, hz7, rfl⟩ := List.mem_map.mp hz8
      by_cases hcv9 : z7.1 ≤ pc ∧ pc < z7.2.1
      · refine Or.inr ⟨zlx_ne _, ?_⟩
        have hne : z7.2.2.2 ≠ x := fun hh => f4 z7 hz7 ⟨hcv9.1, hcv9.2, hh⟩
        obtain ⟨X2, hX2⟩ := zxn_at (e2 z7 (by rw [f1]; exact List.mem_append_left _ hz7))
        exact ⟨X2, by rw [hcls]; exact hT _ (zlx_link _ X2 hX2) rfl _, hNc x _ XN X2 hxn hX2 (fun hh => hne hh.symm)⟩
      · left
        show (decide (z7.1 ≤ pc) && decide (pc < z7.2.1)) = false
        rw [Bool.and_eq_false_iff]
        by_cases h7 : z7.1 ≤ pc
        · exact Or.inr (decide_eq_false (fun h8 => hcv9 ⟨h7, h8⟩))
        · exact Or.inl (decide_eq_false h7)
    · show (decide (s9 ≤ pc) && decide (pc < e9)) = true
      rw [decide_eq_true f2, decide_eq_true f3]
      rfl
    · exact K H1 locs1 cells slots tys ws1 [.ref q9] LS lv b1 b2 hK hP hD hS hR hE ⟨_, _, rfl, ⟨q9, rfl⟩, rfl⟩ hl hL
  · cases heq
    have hh0 : hh = [] := by
      rcases hno with hno | hno
      · exact z1 hno
      · exact (z2 _ hno).1
    refine vx_out (fun z hz => by rw [hexc, hh0] at hz; exact absurd hz List.not_mem_nil) hlocks hce hcv hcl (fun t ht hvm => ⟨x, tys, ws1, rfl, hxn, hE, va_K.moved hvm hK, by rw [ht]; exact hP, hD, hR, hS.F ht⟩) hS.2.2 (by omega) (by omega)

set_option maxHeartbeats 1000000 in
set_option maxRecDepth 100000 in
theorem zs_invV (IH : zWk l D adK b z0 E ih) (hM : zMono ih) (hmi : zat zmn mi = some (y, cc, mL, ret, hh, q)) (X : zFr p s m meth c y cc mL ret hh) (hEW : zEW adK b z0 E s s.heap) (hfr : d + 10 ≤ R.frames) (hlo : 64 * d + 300 ≤ R.locals) (hmc : mc ≤ R.cells) (hms : ms ≤ R.slots) {i j a3 : Nat} {tx : Bool} (htx : tx = true → a3 = 0) {yj : MethodName} {ccj : ByteArray} {mLj : Nat} {retj : Option FieldType} {hhj : List (Nat × Nat × Nat × Nat)} {qj : Nat × Nat × Nat × Nat} (hj0 : 0 < j) (hj : zat zmn j = some (yj, ccj, mLj, retj, hhj, qj)) (hnm : yj.name ≠ "<init>") {na mL9 ci rk kd : Nat} (hji : zat zmi j = some (na, mL9, 0, ci, rk, kd))
    (hlk : match a3 with | 0 => Jvm.Cond.methodLink y.cls i yj ∈ lw_tbl | _ => Jvm.Cond.methodLinkNest y.cls i yj "SandHouse" ∈ lw_tbl) (hd : decode cc pc = .ok (.invokevirtual i, 3)) (e9 : zinv ih (ih d mi (pc + 3)) d mi pc j tx ls st h = some (r, h')) : zGo p l e R s m args below meth c D adK b z0 mL ws0 mc ms r h' (pc) (ls) (st) (h) := by
  have I : ∀ {pc' ls' st' h''}, ih d mi pc' ls' st' h'' = some (r, h') → zGo p l e R s m args below meth c D adK b z0 mL ws0 mc ms r h' pc' ls' st' h'' := fun e8 => IH _ _ _ _ _ _ _ _ e8 p e R s m args below meth c y cc mL ret hh q ws0 mc ms hmi X hEW hfr hlo hmc hms
  obtain ⟨na', mL', stc', ci', rk', kd', as, r1, d', k1, k2, rfl, k4, k5, k6, rfl, k8⟩ := zinv_inv e9
  cases hji.symm.trans k1
  obtain ⟨rfl, hF⟩ := zmok_spec (zmok_all j hj0 (zmn_lt hj)) hj hji
  obtain ⟨f1, f2, f3, f4, f5, f6, f7, f8, f9, f10, f11, f12, f13⟩ := id hF
  obtain ⟨hT, -⟩ := id hEW
  obtain ⟨-, -, zi3, -⟩ := zh_at hj
  intro H locs cells slots tys ws rst LS lv b1 b2 hK hP hD hS hR hE hv hl hL
  obtain ⟨hx, hb, hr, hml, hown, hlocks, hname, hexc⟩ := id X
  obtain ⟨ra, rr, rfl, hv1, hv2⟩ := hv.app
  have hv3 : zVs adK b ws as ra.reverse := by
    have := hv1.rev
    rwa [List.reverse_reverse] at this
  obtain ⟨ras, hras⟩ : ∃ ras, ras = ra.reverse := ⟨_, rfl⟩
  rw [← hras] at hv3
  have hra : ra = ras.reverse := by rw [hras, List.reverse_reverse]
  subst hra
  have hrlen := hv3.len
  have hcats := hv2.cats
  obtain ⟨k, sl, as', has, hk⟩ := k6 rfl
  have hk0 := zkd0 hji
  obtain ⟨hh0, hcode⟩ := f9 hk0
  obtain ⟨g1, g2, g3, T9, N9, g4⟩ := f12 rfl
  obtain ⟨a, ras', hra9, hka⟩ : ∃ a ras', ras = .ref a :: ras' ∧ zad ws k a := by
    rw [has] at hv3
    obtain ⟨rv, rs, e1, ⟨a, h1, h2⟩, -⟩ := hv3
    exact ⟨a, rs, by rw [e1, h2], h1⟩
  have hlen9 : ras'.length = na - 1 := by rw [hra9, List.length_cons] at hrlen; omega
  have hrecv : ∃ cell : Cell, H[a]? = some cell ∧ cell.vm.isStatics = false ∧ s.vm.findClass yj.cls = some cell.cls := by
    obtain ⟨fs, q1, -⟩ := hR.obj hk hka
    rw [zat_eq] at g4
    exact va_recv hK hP g4 q1
  have hsel := g3.resolve_left hnm
  have n1 : na - (1 - 0) = na - 1 := by omega
  rw [n1] at f5
  rcases k8 with ⟨v, h1, e1, e2⟩ | ⟨t1, t2, x, h1, e1, e2⟩
  · have hle := hM _ _ _ _ _ _ _ _ e1
    have hle2 := hM _ _ _ _ _ _ _ _ e2
    have l1 := hle.1
    have l2 := hle.2
    have l3 := hle2.1
    have l4 := hle2.2
    have M := zx_met ((zmet IH hj hF e1 k5 k2 hv3 hR hD hle).1 hk0) (fun E st t hz => by obtain ⟨x, _, _, hz, -⟩ := hz; cases hz)
    cases a3 with
    | zero => exact zcont (va_runV (C := yj.cls) (As := ras') (rest := rr) (Ts := []) (nL := mL) ⟨hx, hb, hml, hown, fun _ h => nomatch h⟩ M ⟨zcb hT hcode f11 hlk rfl rfl (by show _ + 10 + 1 ≤ _; omega) (by show 8 + (_ + 11) + (64 * _ + 300) ≤ _; omega) f4 f5, hT _ g2 rfl _, hT _ hsel rfl _⟩ ⟨zPre_blind, hrecv, fun U hU hW => ⟨by rw [hra9], by rw [hU]; exact hEW.go hW hS.1 hS.2.1, va_K.moved hW.alike hK, by rw [hU]; exact hP⟩⟩ rfl hlen9 hL.1 (by show _ = _; rw [hra9]; simp) (by show 2 * 0 + _ ≤ _; rw [hcats]; omega) hd ⟨by omega, by omega⟩) hS (by omega) (by omega) hE hv2 hl hL (I e2)
    | succ a3 => exact zcont (va_runVN (C := yj.cls) (As := ras') (rest := rr) (Ts := []) (nL := mL) ⟨hx, hb, hml, hown, fun _ h => nomatch h⟩ M ⟨zcn hT hcode f11 hlk rfl rfl (by show _ + 10 + 1 ≤ _; omega) (by show 8 + (_ + 11) + (64 * _ + 300) ≤ _; omega) f4 f5, hT _ g2 rfl _, hT _ hsel rfl _⟩ ⟨zPre_blind, hrecv, fun U hU hW => ⟨by rw [hra9], by rw [hU]; exact hEW.go hW hS.1 hS.2.1, va_K.moved hW.alike hK, by rw [hU]; exact hP⟩⟩ rfl hlen9 hL.1 (by show _ = _; rw [hra9]; simp) (by show 2 * 0 + _ ≤ _; rw [hcats]; omega) hd ⟨by omega, by omega⟩) hS (by omega) (by omega) hE hv2 hl hL (I e2)
  · have ha3 := htx t1
    subst ha3
    have hle := hM _ _ _ _ _ _ _ _ e1
    have l1 := hle.1
    have l2 := hle.2
    have hle3 : zleH h1 h' := by
      rcases e2 with ⟨hs, t, -, -, e3⟩ | ⟨-, e3⟩
      · exact hM _ _ _ _ _ _ _ _ e3
      · cases e3; exact zle_refl _
    have l3 := hle3.1
    have l4 := hle3.2
    skip
    have M := (zmet IH hj hF e1 k5 k2 hv3 hR hD hle).1 t2
    refine zcontX (vx_runV (C := yj.cls) (As := ras') (rest := rr) (Ts := []) (nL := mL) ⟨hx, hb, hml, hown, fun _ h => nomatch h⟩ M ⟨zcb hT hcode f11 hlk rfl rfl (by show _ + 10 + 1 ≤ _; omega) (by show 8 + (_ + 11) + (64 * _ + 300) ≤ _; omega) f4 f5, hT _ g2 rfl _, hT _ hsel rfl _⟩ ⟨zPre_blind, hrecv, fun U hU hW => ⟨by rw [hra9], by rw [hU]; exact hEW.go hW hS.1 hS.2.1, va_K.moved hW.alike hK, by rw [hU]; exact hP⟩⟩ rfl hlen9 hL.1 (by show _ = _; rw [hra9]; simp) (by show 2 * 0 + _ ≤ _; rw [hcats]; omega) hd ⟨by omega, by omega⟩) hS (fun XN ce q9 H1 locs1 tys1 ws1 hxn hce hcv hcl hK1 hP1 hD1 hS1 hR1 hE1 => zafter X hmi hEW (hl.mono hE1) hL hxn hce hcv hcl hK1 hP1 hD1 hS1 hR1 (hE.tr hE1) (by omega) (by omega) ?_)
    rcases e2 with ⟨hs, t, z1, z2, e3⟩ | ⟨z1, e3⟩
    · exact Or.inl ⟨hs, t, z1, z2, I e3⟩
    · exact Or.inr ⟨z1, e3⟩

set_option maxHeartbeats 1000000 in
set_option maxRecDepth 100000 in
theorem zs_invI (IH : zWk l D adK b z0 E ih) (hM : zMono ih) (hmi : zat zmn mi = some (y, cc, mL, ret, hh, q)) (X : zFr p s m meth c y cc mL ret hh) (hEW : zEW adK b z0 E s s.heap) (hfr : d + 10 ≤ R.frames) (hlo : 64 * d + 300 ≤ R.locals) (hmc : mc ≤ R.cells) (hms : ms ≤ R.slots) {i j a3 : Nat} {tx : Bool} (htx : tx = false) {yj : MethodName} {ccj : ByteArray} {mLj : Nat} {retj : Option FieldType} {hhj : List (Nat × Nat × Nat × Nat)} {qj : Nat × Nat × Nat × Nat} (hj0 : 0 < j) (hj : zat zmn j = some (yj, ccj, mLj, retj, hhj, qj)) (hnm : yj.name = "<init>") {na mL9 ci rk kd : Nat} (hji : zat zmi j = some (na, mL9, 0, ci, rk, kd))
    (hlk : match a3 with | 0 => Jvm.Cond.methodLink y.cls i yj ∈ lw_tbl | _ => Jvm.Cond.methodLinkNest y.cls i yj "SandHouse" ∈ lw_tbl) (hd : decode cc pc = .ok (.invokespecial i, 3)) (e9 : zinv ih (ih d mi (pc + 3)) d mi pc j tx ls st h = some (r, h')) : zGo p l e R s m args below meth c D adK b z0 mL ws0 mc ms r h' (pc) (ls) (st) (h) := by
  have I : ∀ {pc' ls' st' h''}, ih d mi pc' ls' st' h'' = some (r, h') → zGo p l e R s m args below meth c D adK b z0 mL ws0 mc ms r h' pc' ls' st' h'' := fun e8 => IH _ _ _ _ _ _ _ _ e8 p e R s m args below meth c y cc mL ret hh q ws0 mc ms hmi X hEW hfr hlo hmc hms
  obtain ⟨na', mL', stc', ci', rk', kd', as, r1, d', k1, k2, rfl, k4, k5, k6, rfl, k8⟩ := zinv_inv e9
  cases hji.symm.trans k1
  obtain ⟨rfl, hF⟩ := zmok_spec (zmok_all j hj0 (zmn_lt hj)) hj hji
  obtain ⟨f1, f2, f3, f4, f5, f6, f7, f8, f9, f10, f11, f12, f13⟩ := id hF
  obtain ⟨hT, -⟩ := id hEW
  obtain ⟨-, -, zi3, -⟩ := zh_at hj
  intro H locs cells slots tys ws rst LS lv b1 b2 hK hP hD hS hR hE hv hl hL
  obtain ⟨hx, hb, hr, hml, hown, hlocks, hname, hexc⟩ := id X
  obtain ⟨ra, rr, rfl, hv1, hv2⟩ := hv.app
  have hv3 : zVs adK b ws as ra.reverse := by
    have := hv1.rev
    rwa [List.reverse_reverse] at this
  obtain ⟨ras, hras⟩ : ∃ ras, ras = ra.reverse := ⟨_, rfl⟩
  rw [← hras] at hv3
  have hra : ra = ras.reverse := by rw [hras, List.reverse_reverse]
  subst hra
  have hrlen := hv3.len
  have hcats := hv2.cats
  obtain ⟨k, sl, as', has, hk⟩ := k6 rfl
  have hk0 := zkd0 hji
  obtain ⟨hh0, hcode⟩ := f9 hk0
  obtain ⟨g1, g2, g3, T9, N9, g4⟩ := f12 rfl
  obtain ⟨a, ras', hra9, hka⟩ : ∃ a ras', ras = .ref a :: ras' ∧ zad ws k a := by
    rw [has] at hv3
    obtain ⟨rv, rs, e1, ⟨a, h1, h2⟩, -⟩ := hv3
    exact ⟨a, rs, by rw [e1, h2], h1⟩
  have hlen9 : ras'.length = na - 1 := by rw [hra9, List.length_cons] at hrlen; omega
  have n1 : na - (1 - 0) = na - 1 := by omega
  rw [n1] at f5
  rcases k8 with ⟨v, h1, e1, e2⟩ | ⟨t1, t2, x, h1, e1, e2⟩
  · have hle := hM _ _ _ _ _ _ _ _ e1
    have hle2 := hM _ _ _ _ _ _ _ _ e2
    have l1 := hle.1
    have l2 := hle.2
    have l3 := hle2.1
    have l4 := hle2.2
    have M := zx_met ((zmet IH hj hF e1 k5 k2 hv3 hR hD hle).1 hk0) (fun E st t hz => by obtain ⟨x, _, _, hz, -⟩ := hz; cases hz)
    have hret := zi3 hnm
    subst hret
    cases a3 with
    | zero => exact zcont (va_runI (As := ras') (rest := rr) (Ts := []) (nL := mL) ⟨hx, hb, hml, hown, fun _ h => nomatch h⟩ M ⟨zcb hT hcode f11 hlk rfl rfl (by show _ + 10 + 1 ≤ _; omega) (by show 8 + (_ + 11) + (64 * _ + 300) ≤ _; omega) f4 f5, hnm, hT _ g2 rfl _⟩ ⟨zPre_blind, fun U hU hW => ⟨by rw [hra9], by rw [hU]; exact hEW.go hW hS.1 hS.2.1, va_K.moved hW.alike hK, by rw [hU]; exact hP⟩⟩ rfl hlen9 hL.1 (by show _ = _; rw [hra9]; simp) (by show 2 * 0 + _ ≤ _; rw [hcats]; omega) hd ⟨by omega, by omega⟩) hS (by omega) (by omega) hE hv2 hl hL (I e2)
    | succ a3 => exact zcont (va_runIN (As := ras') (rest := rr) (Ts := []) (nL := mL) ⟨hx, hb, hml, hown, fun _ h => nomatch h⟩ M ⟨zcn hT hcode f11 hlk rfl rfl (by show _ + 10 + 1 ≤ _; omega) (by show 8 + (_ + 11) + (64 * _ + 300) ≤ _; omega) f4 f5, hnm, hT _ g2 rfl _⟩ ⟨zPre_blind, fun U hU hW => ⟨by rw [hra9], by rw [hU]; exact hEW.go hW hS.1 hS.2.1, va_K.moved hW.alike hK, by rw [hU]; exact hP⟩⟩ rfl hlen9 hL.1 (by show _ = _; rw [hra9]; simp) (by show 2 * 0 + _ ≤ _; rw [hcats]; omega) hd ⟨by omega, by omega⟩) hS (by omega) (by omega) hE hv2 hl hL (I e2)
  · rw [htx] at t1
    cases t1

set_option maxHeartbeats 1000000 in
set_option maxRecDepth 100000 in
theorem zs_invS (IH : zWk l D adK b z0 E ih) (hM : zMono ih) (hmi : zat zmn mi = some (y, cc, mL, ret, hh, q)) (X : zFr p s m meth c y cc mL ret hh) (hEW : zEW adK b z0 E s s.heap) (hfr : d + 10 ≤ R.frames) (hlo : 64 * d + 300 ≤ R.locals) (hmc : mc ≤ R.cells) (hms : ms ≤ R.slots) {i j a3 : Nat} {tx : Bool} (htx : tx = true → a3 = 0) {yj : MethodName} {ccj : ByteArray} {mLj : Nat} {retj : Option FieldType} {hhj : List (Nat × Nat × Nat × Nat)} {qj : Nat × Nat × Nat × Nat} (hj0 : 0 < j) (hj : zat zmn j = some (yj, ccj, mLj, retj, hhj, qj))  {na mL9 ci rk kd : Nat} (hji : zat zmi j = some (na, mL9, 1, ci, rk, kd))
    (hlk : match a3 with | 0 => Jvm.Cond.methodLink y.cls i yj ∈ lw_tbl | _ => Jvm.Cond.methodLinkNest y.cls i yj "SandHouse" ∈ lw_tbl) (hsw : kd ≠ 0 → a3 = 0) (hd : decode cc pc = .ok (.invokestatic i, 3)) (e9 : zinv ih (ih d mi (pc + 3)) d mi pc j tx ls st h = some (r, h')) : zGo p l e R s m args below meth c D adK b z0 mL ws0 mc ms r h' (pc) (ls) (st) (h) := by
  have I : ∀ {pc' ls' st' h''}, ih d mi pc' ls' st' h'' = some (r, h') → zGo p l e R s m args below meth c D adK b z0 mL ws0 mc ms r h' pc' ls' st' h'' := fun e8 => IH _ _ _ _ _ _ _ _ e8 p e R s m args below meth c y cc mL ret hh q ws0 mc ms hmi X hEW hfr hlo hmc hms
  obtain ⟨na', mL', stc', ci', rk', kd', as, r1, d', k1, k2, rfl, k4, k5, k6, rfl, k8⟩ := zinv_inv e9
  cases hji.symm.trans k1
  obtain ⟨rfl, hF⟩ := zmok_spec (zmok_all j hj0 (zmn_lt hj)) hj hji
  obtain ⟨f1, f2, f3, f4, f5, f6, f7, f8, f9, f10, f11, f12, f13⟩ := id hF
  obtain ⟨hT, -⟩ := id hEW
  obtain ⟨-, -, zi3, -⟩ := zh_at hj
  intro H locs cells slots tys ws rst LS lv b1 b2 hK hP hD hS hR hE hv hl hL
  obtain ⟨hx, hb, hr, hml, hown, hlocks, hname, hexc⟩ := id X
  obtain ⟨ra, rr, rfl, hv1, hv2⟩ := hv.app
  have hv3 : zVs adK b ws as ra.reverse := by
    have := hv1.rev
    rwa [List.reverse_reverse] at this
  obtain ⟨ras, hras⟩ : ∃ ras, ras = ra.reverse := ⟨_, rfl⟩
  rw [← hras] at hv3
  have hra : ra = ras.reverse := by rw [hras, List.reverse_reverse]
  subst hra
  have hrlen := hv3.len
  have hcats := hv2.cats
  have n1 : na - (1 - 1) = na := by omega
  rw [n1] at f5
  rcases k8 with ⟨v, h1, e1, e2⟩ | ⟨t1, t2, x, h1, e1, e2⟩
  · have hle := hM _ _ _ _ _ _ _ _ e1
    have hle2 := hM _ _ _ _ _ _ _ _ e2
    have l1 := hle.1
    have l2 := hle.2
    have l3 := hle2.1
    have l4 := hle2.2
    have f14 := f13 (by decide)
    by_cases hk0 : kd = 0
    · obtain ⟨hh0, hcode⟩ := f9 hk0
      have M := zx_met ((zmet IH hj hF e1 k5 k2 hv3 hR hD hle).1 hk0) (fun E st t hz => by obtain ⟨x, _, _, hz, -⟩ := hz; cases hz)
      cases a3 with
      | zero => exact zcont (va_runS (As := ras) (rest := rr) (Ts := []) (nL := mL) ⟨hx, hb, hml, hown, fun _ h => nomatch h⟩ M ⟨zcb hT hcode f11 hlk rfl rfl (by show _ + 10 + 1 ≤ _; omega) (by show 8 + (_ + 11) + (64 * _ + 300) ≤ _; omega) f4 f5, hT _ f14 rfl _⟩ ⟨zPre_blind, fun U hU hW => ⟨rfl, by rw [hU]; exact hEW.go hW hS.1 hS.2.1, va_K.moved hW.alike hK, by rw [hU]; exact hP⟩⟩ rfl (hrlen.trans k2) hL.1 rfl (by show 2 * 0 + _ ≤ _; rw [hcats]; omega) hd ⟨by omega, by omega⟩) hS (by omega) (by omega) hE hv2 hl hL (I e2)
      | succ a3 => exact zcont (va_runSN (As := ras) (rest := rr) (Ts := []) (nL := mL) ⟨hx, hb, hml, hown, fun _ h => nomatch h⟩ M ⟨zcn hT hcode f11 hlk rfl rfl (by show _ + 10 + 1 ≤ _; omega) (by show 8 + (_ + 11) + (64 * _ + 300) ≤ _; omega) f4 f5, hT _ f14 rfl _, trivial⟩ ⟨zPre_blind, fun U hU hW => ⟨rfl, by rw [hU]; exact hEW.go hW hS.1 hS.2.1, va_K.moved hW.alike hK, by rw [hU]; exact hP⟩⟩ rfl (hrlen.trans k2) hL.1 rfl (by show 2 * 0 + _ ≤ _; rw [hcats]; omega) hd ⟨by omega, by omega⟩) hS (by omega) (by omega) hE hv2 hl hL (I e2)
    · have hcode := f10 hk0
      have M := zx_met ((zmet IH hj hF e1 k5 k2 hv3 hR hD hle).2 hk0) (fun E st t hz => by obtain ⟨x, _, _, hz, -⟩ := hz; cases hz)
      have ha3 : a3 = 0 := hsw hk0
      subst ha3
      exact zcont (vx_runSW (As := ras) (rest := rr) (Ts := []) (nL := mL) ⟨hx, hb, hml, hown, fun _ h => nomatch h⟩ M (zcsw hT hcode f11 hlk f14 rfl rfl (by show _ + 10 + 1 ≤ _; omega) (by show 8 + (_ + 11) + (64 * _ + 300) ≤ _; omega) f4 f5) ⟨zPre_blind, fun U hU hW => ⟨rfl, by rw [hU]; exact hEW.go hW hS.1 hS.2.1, va_K.moved hW.alike hK, by rw [hU]; exact hP⟩⟩ rfl (hrlen.trans k2) hL.1 rfl (by show 2 * 0 + _ ≤ _; rw [hcats]; omega) hd ⟨by omega, by omega⟩) hS (by omega) (by omega) hE hv2 hl hL (I e2)
  · have ha3 := htx t1
    subst ha3
    have hle := hM _ _ _ _ _ _ _ _ e1
    have l1 := hle.1
    have l2 := hle.2
    have hle3 : zleH h1 h' := by
      rcases e2 with ⟨hs, t, -, -, e3⟩ | ⟨-, e3⟩
      · exact hM _ _ _ _ _ _ _ _ e3
      · cases e3; exact zle_refl _
    have l3 := hle3.1
    have l4 := hle3.2
    obtain ⟨hh0, hcode⟩ := f9 t2
    have M := (zmet IH hj hF e1 k5 k2 hv3 hR hD hle).1 t2
    refine zcontX (vx_runS (As := ras) (rest := rr) (Ts := []) (nL := mL) ⟨hx, hb, hml, hown, fun _ h => nomatch h⟩ M ⟨zcb hT hcode f11 hlk rfl rfl (by show _ + 10 + 1 ≤ _; omega) (by show 8 + (_ + 11) + (64 * _ + 300) ≤ _; omega) f4 f5, hT _ (f13 (by decide)) rfl _⟩ ⟨zPre_blind, fun U hU hW => ⟨rfl, by rw [hU]; exact hEW.go hW hS.1 hS.2.1, va_K.moved hW.alike hK, by rw [hU]; exact hP⟩⟩ rfl (hrlen.trans k2) hL.1 rfl (by show 2 * 0 + _ ≤ _; rw [hcats]; omega) hd ⟨by omega, by omega⟩) hS (fun XN ce q9 H1 locs1 tys1 ws1 hxn hce hcv hcl hK1 hP1 hD1 hS1 hR1 hE1 => zafter X hmi hEW (hl.mono hE1) hL hxn hce hcv hcl hK1 hP1 hD1 hS1 hR1 (hE.tr hE1) (by omega) (by omega) ?_)
    rcases e2 with ⟨hs, t, z1, z2, e3⟩ | ⟨z1, e3⟩
    · exact Or.inl ⟨hs, t, z1, z2, I e3⟩
    · exact Or.inr ⟨z1, e3⟩

end ZSND
