/-! String.length() and charAt() of a constant -/
def zy_pc : MethodName := ⟨"jdk/internal/util/Preconditions", "checkIndex", "(IILjava/util/function/BiFunction;)I"⟩
abbrev zb_pc : ByteArray := prog_33_method_11_code
def zy_ci : MethodName := ⟨"java/lang/String", "checkIndex", "(II)V"⟩
abbrev zb_ci : ByteArray := prog_24_method_155_code
def zy_lc : MethodName := ⟨"java/lang/StringLatin1", "charAt", "([BI)C"⟩
abbrev zb_lc : ByteArray := prog_25_method_2_code
def zy_il : MethodName := ⟨"java/lang/String", "isLatin1", "()Z"⟩
abbrev zb_il : ByteArray := prog_24_method_154_code
def zy_co : MethodName := ⟨"java/lang/String", "coder", "()B"⟩
abbrev zb_co : ByteArray := prog_24_method_152_code
def zy_le : MethodName := ⟨"java/lang/String", "length", "()I"⟩
abbrev zb_le : ByteArray := prog_24_method_54_code
def zy_ch : MethodName := ⟨"java/lang/String", "charAt", "(I)C"⟩
abbrev zb_ch : ByteArray := prog_24_method_56_code
theorem zd_pc_0 : decode zb_pc 0 = .ok (.iload_n 0, 1) := by decide +kernel
theorem zd_pc_1 : decode zb_pc 1 = .ok (.ifCond .lt 8, 3) := by decide +kernel
theorem zd_pc_4 : decode zb_pc 4 = .ok (.iload_n 0, 1) := by decide +kernel
theorem zd_pc_5 : decode zb_pc 5 = .ok (.iload_n 1, 1) := by decide +kernel
theorem zd_pc_6 : decode zb_pc 6 = .ok (.if_icmp .lt 10, 3) := by decide +kernel
theorem zd_pc_9 : decode zb_pc 9 = .ok (.aload_n 2, 1) := by decide +kernel
theorem zd_pc_10 : decode zb_pc 10 = .ok (.iload_n 0, 1) := by decide +kernel
theorem zd_pc_11 : decode zb_pc 11 = .ok (.iload_n 1, 1) := by decide +kernel
theorem zd_pc_12 : decode zb_pc 12 = .ok (.invokestatic 95, 3) := by decide +kernel
theorem zd_pc_15 : decode zb_pc 15 = .ok (.athrow, 1) := by decide +kernel
theorem zd_pc_16 : decode zb_pc 16 = .ok (.iload_n 0, 1) := by decide +kernel
theorem zd_pc_17 : decode zb_pc 17 = .ok (.ireturn, 1) := by decide +kernel
theorem zd_ci_0 : decode zb_ci 0 = .ok (.iload_n 0, 1) := by decide +kernel
theorem zd_ci_1 : decode zb_ci 1 = .ok (.iload_n 1, 1) := by decide +kernel
theorem zd_ci_2 : decode zb_ci 2 = .ok (.getstatic 1053, 3) := by decide +kernel
theorem zd_ci_5 : decode zb_ci 5 = .ok (.invokestatic 1059, 3) := by decide +kernel
theorem zd_ci_8 : decode zb_ci 8 = .ok (.pop, 1) := by decide +kernel
theorem zd_ci_9 : decode zb_ci 9 = .ok (.return_, 1) := by decide +kernel
theorem zd_lc_0 : decode zb_lc 0 = .ok (.iload_n 1, 1) := by decide +kernel
theorem zd_lc_1 : decode zb_lc 1 = .ok (.aload_n 0, 1) := by decide +kernel
theorem zd_lc_2 : decode zb_lc 2 = .ok (.arraylength, 1) := by decide +kernel
theorem zd_lc_3 : decode zb_lc 3 = .ok (.invokestatic 9, 3) := by decide +kernel
theorem zd_lc_6 : decode zb_lc 6 = .ok (.aload_n 0, 1) := by decide +kernel
theorem zd_lc_7 : decode zb_lc 7 = .ok (.iload_n 1, 1) := by decide +kernel
theorem zd_lc_8 : decode zb_lc 8 = .ok (.baload, 1) := by decide +kernel
theorem zd_lc_9 : decode zb_lc 9 = .ok (.sipush 255, 3) := by decide +kernel
theorem zd_lc_12 : decode zb_lc 12 = .ok (.iand, 1) := by decide +kernel
theorem zd_lc_13 : decode zb_lc 13 = .ok (.i2c, 1) := by decide +kernel
theorem zd_lc_14 : decode zb_lc 14 = .ok (.ireturn, 1) := by decide +kernel
theorem zd_il_0 : decode zb_il 0 = .ok (.getstatic 38, 3) := by decide +kernel
theorem zd_il_3 : decode zb_il 3 = .ok (.ifCond .eq 14, 3) := by decide +kernel
theorem zd_il_6 : decode zb_il 6 = .ok (.aload_n 0, 1) := by decide +kernel
theorem zd_il_7 : decode zb_il 7 = .ok (.getfield 15, 3) := by decide +kernel
theorem zd_il_10 : decode zb_il 10 = .ok (.ifCond .ne 7, 3) := by decide +kernel
theorem zd_il_13 : decode zb_il 13 = .ok (.iconst 1, 1) := by decide +kernel
theorem zd_il_14 : decode zb_il 14 = .ok (.goto 4, 3) := by decide +kernel
theorem zd_il_17 : decode zb_il 17 = .ok (.iconst 0, 1) := by decide +kernel
theorem zd_il_18 : decode zb_il 18 = .ok (.ireturn, 1) := by decide +kernel
theorem zd_co_0 : decode zb_co 0 = .ok (.getstatic 38, 3) := by decide +kernel
theorem zd_co_3 : decode zb_co 3 = .ok (.ifCond .eq 10, 3) := by decide +kernel
theorem zd_co_6 : decode zb_co 6 = .ok (.aload_n 0, 1) := by decide +kernel
theorem zd_co_7 : decode zb_co 7 = .ok (.getfield 15, 3) := by decide +kernel
theorem zd_co_10 : decode zb_co 10 = .ok (.goto 4, 3) := by decide +kernel
theorem zd_co_13 : decode zb_co 13 = .ok (.iconst 1, 1) := by decide +kernel
theorem zd_co_14 : decode zb_co 14 = .ok (.ireturn, 1) := by decide +kernel
theorem zd_le_0 : decode zb_le 0 = .ok (.aload_n 0, 1) := by decide +kernel
theorem zd_le_1 : decode zb_le 1 = .ok (.getfield 9, 3) := by decide +kernel
theorem zd_le_4 : decode zb_le 4 = .ok (.arraylength, 1) := by decide +kernel
theorem zd_le_5 : decode zb_le 5 = .ok (.aload_n 0, 1) := by decide +kernel
theorem zd_le_6 : decode zb_le 6 = .ok (.invokevirtual 335, 3) := by decide +kernel
theorem zd_le_9 : decode zb_le 9 = .ok (.ishr, 1) := by decide +kernel
theorem zd_le_10 : decode zb_le 10 = .ok (.ireturn, 1) := by decide +kernel
theorem zd_ch_0 : decode zb_ch 0 = .ok (.aload_n 0, 1) := by decide +kernel
theorem zd_ch_1 : decode zb_ch 1 = .ok (.invokevirtual 492, 3) := by decide +kernel
theorem zd_ch_4 : decode zb_ch 4 = .ok (.ifCond .eq 12, 3) := by decide +kernel
theorem zd_ch_7 : decode zb_ch 7 = .ok (.aload_n 0, 1) := by decide +kernel
theorem zd_ch_8 : decode zb_ch 8 = .ok (.getfield 9, 3) := by decide +kernel
theorem zd_ch_11 : decode zb_ch 11 = .ok (.iload_n 1, 1) := by decide +kernel
theorem zd_ch_12 : decode zb_ch 12 = .ok (.invokestatic 495, 3) := by decide +kernel
theorem zd_ch_15 : decode zb_ch 15 = .ok (.ireturn, 1) := by decide +kernel
theorem zd_ch_16 : decode zb_ch 16 = .ok (.aload_n 0, 1) := by decide +kernel
theorem zd_ch_17 : decode zb_ch 17 = .ok (.getfield 9, 3) := by decide +kernel
theorem zd_ch_20 : decode zb_ch 20 = .ok (.iload_n 1, 1) := by decide +kernel
theorem zd_ch_21 : decode zb_ch 21 = .ok (.invokestatic 498, 3) := by decide +kernel
theorem zd_ch_24 : decode zb_ch 24 = .ok (.ireturn, 1) := by decide +kernel
theorem zin (i : Nat) {w : Jvm.Cond} (h : lw_tbl[i]? = some w) : w ∈ lw_tbl := List.mem_of_getElem? h
def zQn : Array Value → State → Outcome → State → Prop := fun _ st o t => o = .returned none ∧ t.heap = st.heap
section ZSTR
variable {p : Program} {l : Launch} {e : Env} {R : Room} {s : State} {m : MethodId} {args : Array Value} {below : List Frame} {meth : Method} {c : Code} {H : Heap} {locs : List Loc} {cells slots : Nat} {Q : State → Prop}
theorem zcallN {g : JFrame} {rest : List Value} {a : Array Value} (hr : CallRun p l e R s m args below meth c H locs cells slots 0 0 g rest (zQn a) (fun _ => False)) (kk : W p l e R s m args below meth c H locs cells slots Q { g with pc := g.pc + 3, stack := rest }) : W p l e R s m args below meth c H locs cells slots Q g := by
  intro T hT X
  obtain ⟨v, st₀, t, T', L, h0, X', hL, e1, ⟨hv, hh⟩, st⟩ := hr T hT X
  cases hv
  obtain ⟨t2, a1, b1⟩ := kk T' (by rw [e1, hh, h0]) (Stand.forget X' (fun q h => (hL q h).elim))
  exact ⟨t2, st t2 a1, b1⟩
/-- a callee's words at a call -/
theorem zcb {own : String} {index : Nat} {y : MethodName} {bytes : ByteArray} {maxL : Nat} {ret : Option FieldType} {rm : Room} {mc ms n : Nat} (hT : zTW s) (hc : Jvm.Cond.code y bytes maxL ret ∈ lw_tbl) (hi : Jvm.Cond.initialized y.cls ∈ lw_tbl) (hl : Jvm.Cond.methodLink own index y ∈ lw_tbl)
    (hrc : rm.cells = mc) (hrs : rm.slots = ms) (hf : rm.frames + 1 ≤ R.frames) (hlo : 8 + (maxL + 11) + rm.locals ≤ R.locals) (hy : y.cls ≠ "java/lang/invoke/MethodHandle" ∧ y.cls ≠ "java/lang/invoke/VarHandle") (hn : (parseMethodDescriptor y.desc).map (fun d => d.parameters.length) = some n) :
    CallB R s args own index y bytes maxL ret [Jvm.Cond.code y bytes maxL ret] rm mc ms n := by
  refine ⟨hrc, hrs, hf, hlo, fun w hw a' U hW => ?_, List.mem_singleton_self _, hT _ hc rfl _, hT _ hi rfl _, hy, fun sig h => ?_, hT _ hl rfl _⟩
  · rw [List.mem_singleton.mp hw]
    exact (hT.warm hW) _ hc rfl _
  · rw [h] at hn
    exact (Option.some.inj hn).symm
def zPc (adK : Nat → Nat) (b z0 : Nat) (E : zE) (av : List Value) (K : State → Prop) : Array Value → State → Prop := va_Pc av (fun U => zEW adK b z0 E U U.heap ∧ K U)
theorem zPc_blind {adK : Nat → Nat} {b z0 : Nat} {E : zE} {av : List Value} {K : State → Prop} (hK : ∀ (U : State) (g : JFrame) (mk : MethodId) (a : Array Value), K U → K (U.calling g mk a)) : FrameBlind (zPc adK b z0 E av K) := by
  intro a U g mk ⟨h1, h2, h3⟩
  exact ⟨h1, zEW.go (U := U.calling g mk a) (State.WarmedH.refl U) (Nat.le_refl _) (fun _ _ _ => rfl) h2, hK U g mk a h3⟩
end ZSTR
theorem zofW {l : Launch} {y : MethodName} {ws ws' : List Jvm.Cond} {rm : Room} {Pc : Array Value → State → Prop} {Qc : Array Value → State → Outcome → State → Prop} {mc ms : Nat} {free : Addr → Prop} {cc : ByteArray} {maxL : Nat} {ret : Option FieldType}
    (hy : plainFor y = true) (hw : ws = Jvm.Cond.code y cc maxL ret :: ws')
    (body : ∀ p e s m args below meth c s₁, BodyLoose p l y (headSpec ws rm) cc maxL ret e s m args below meth c s₁ → c.maxLocals = maxL → Pc args s →
      W p l e (headSpec ws rm).room s m args below meth c s.heap [] 0 0 (MQ below Qc args s mc ms free) (entryFrame m args maxL)) : Met l y ws rm Pc Qc mc ms free := by
  refine MetFree.of_bodySF (code := cc) (maxLocals := maxL) (ret := ret) hy ?_ ?_
  · intro args s m h hn
    obtain ⟨meth, c, h1, h2, h3, h4, h5, h6, -, -⟩ := Cond.code_spec hn (atoms_spec (ws := ws) h _ (by rw [hw]; exact List.mem_cons_self))
    exact ⟨meth, c, h1, h2, h3, h4, h5, h6⟩
  · intro p e s m args below meth c s₁ B hml hP _
    have hh0 : s₁.heap = s.heap := by rw [B.state]; rfl
    obtain ⟨t, a1, o, b1, b2, b3⟩ := body p e s m args below meth c s₁ B hml hP s₁ hh0 (Stand.of_body B)
    exact ⟨t, o, a1, b1, b2, ⟨b3.1, b3.2⟩⟩
section ZSTC
variable (l : Launch) (adK : Nat → Nat) (b z0 : Nat) (E : zE)
abbrev zr0 (f n : Nat) : Room := { frames := f, cells := 0, slots := 0, locals := n }

set_option maxRecDepth 100000 in
theorem zm_pc {j n : Int32} (h0 : ¬ j < 0) (h1 : j < n) {x : Value} (hxc : x.category = 1) : Met l zy_pc [Jvm.Cond.code zy_pc zb_pc 3 (some .int)] (zr0 1 30) (zPc adK b z0 E [.int j, .int n, x] (fun _ => True)) (k2_QcV (.int j)) 0 0 (fun _ => False) := by
  refine zofW (cc := zb_pc) (maxL := 3) (ret := (some .int)) (by decide +kernel) rfl ?_
  intro p e s m args below meth c s₁ B hml hv
  obtain ⟨rfl, hE, hK⟩ := hv
  obtain ⟨hT, hRs, hSt, ⟨hU, hN⟩, ⟨hC, hSI⟩, hX, hb0, hNc, hz⟩ := id hE
  have hx := B.exec
  have hb := B.bytes
  have hr := B.returns
  have hown : s.vm.findClass zy_pc.cls = some m.cls := findClass_of_methodNamed B.named
  have hlocks := B.notSynchronized
  have hl := lv_entry ([.int j, .int n, x]) (n := 3) (by cases x <;> first | exact Nat.le_refl _ | exact absurd (show 2 = 1 from hxc) (by decide))
  rw [lg_entry_eq]
  generalize (lg_sl ([.int j, .int n, x]) ++ List.replicate (3 - (lg_sl ([.int j, .int n, x])).length) Slot.unset).toArray = ls at hl ⊢
  have hS : va_S (zA z0) s.heap s.heap [] := va_S.rf
  have hl : lv_has ls 3 [(0, .int j), (1, .int n), (2, x)] := hl
  refine lv_iload_n hx hb zd_pc_0 rfl (lv_at hl 0 rfl) ?_
  refine lv_if_lt (tgt := 9) hx hb zd_pc_1 (by decide) (fun z => absurd z h0) (fun _ => ?_)
  refine lv_iload_n hx hb zd_pc_4 rfl (lv_at hl 0 rfl) ?_
  refine lv_iload_n hx hb zd_pc_5 rfl (lv_at hl 1 rfl) ?_
  refine lv_icmp_lt (tgt := 16) hx hb zd_pc_6 (by decide) (fun _ => ?_) (fun z => absurd h1 z)
  refine lv_iload_n hx hb zd_pc_16 rfl (lv_at hl 0 rfl) ?_
  exact W.iret hx hb hr (fun t ht _ => ⟨rfl, ht⟩) (fun _ h => nomatch h) zd_pc_17
set_option maxRecDepth 100000 in
theorem zm_ci {j n : Int32} (h0 : ¬ j < 0) (h1 : j < n) : Met l zy_ci [Jvm.Cond.code zy_ci zb_ci 2 none] (zr0 3 60) (zPc adK b z0 E [.int j, .int n] (fun _ => True)) (zQn) 0 0 (fun _ => False) := by
  refine zofW (cc := zb_ci) (maxL := 2) (ret := none) (by decide +kernel) rfl ?_
  intro p e s m args below meth c s₁ B hml hv
  obtain ⟨rfl, hE, hK⟩ := hv
  obtain ⟨hT, hRs, hSt, ⟨hU, hN⟩, ⟨hC, hSI⟩, hX, hb0, hNc, hz⟩ := id hE
  have hx := B.exec
  have hb := B.bytes
  have hr := B.returns
  have hown : s.vm.findClass zy_ci.cls = some m.cls := findClass_of_methodNamed B.named
  have hlocks := B.notSynchronized
  have hl := lv_entry ([.int j, .int n]) (n := 2) (by simp [lg_sl, Value.category])
  rw [lg_entry_eq]
  generalize (lg_sl ([.int j, .int n]) ++ List.replicate (2 - (lg_sl ([.int j, .int n])).length) Slot.unset).toArray = ls at hl ⊢
  have hS : va_S (zA z0) s.heap s.heap [] := va_S.rf
  have hl : lv_has ls 2 [(0, .int j), (1, .int n)] := hl
  have G : ∀ x : Value, x.category = 1 → W p l e (zr0 3 60) s m ([.int j, .int n] : List Value).toArray below meth c s.heap [] 0 0 (MQ below zQn ([.int j, .int n] : List Value).toArray s 0 0 (fun _ => False)) (F0 m 5 ls [x, .int n, .int j]) := by
    intro x hxc
    refine W.callV (W.runS (As := [.int j, .int n, x]) (rest := []) (Ts := []) (nL := 2) ⟨hx, hb, hml, hown, fun _ h => nomatch h⟩ (zm_pc l adK b z0 E h0 h1 hxc) ⟨zcb hT (zin 865 rfl) (zin 200 rfl) (zin 863 rfl) rfl rfl (by decide) (by decide) ⟨by decide +kernel, by decide +kernel⟩ (show _ = some 3 from by decide +kernel), hT _ (zin 864 rfl) rfl _⟩
      ⟨zPc_blind (fun _ _ _ _ h => h), fun U hU hW => ⟨rfl, by rw [hU]; exact hE.go hW (Nat.le_refl _) (fun _ _ _ => rfl), trivial⟩⟩ rfl rfl hl.1 rfl (Nat.le_of_ble_eq_true rfl) zd_ci_5 ⟨Nat.le_refl _, Nat.le_refl _⟩) ?_
    refine lv_pop hx hb zd_ci_8 rfl ?_
    exact W.vret hx hb hr (fun t ht _ => ⟨rfl, ht⟩) (fun _ h => nomatch h) zd_ci_9
  refine lv_iload_n hx hb zd_ci_0 rfl (lv_at hl 0 rfl) ?_
  refine lv_iload_n hx hb zd_ci_1 rfl (lv_at hl 1 rfl) ?_
  rcases hSI with h | ⟨t, h⟩
  · exact va_gets hx hb h hS hown (hT _ (zin 861 rfl) rfl _) (fun _ h => h) zd_ci_2 (G _ rfl)
  · exact va_gets hx hb h hS hown (hT _ (zin 861 rfl) rfl _) (fun _ h => h) zd_ci_2 (G _ rfl)
set_option maxRecDepth 100000 in
theorem zm_lc {j : Int32} {t n : Nat} {f : Nat → Int32} (h0 : ¬ j < 0) (h1 : vp_in j n) (h2 : j < Int32.ofNat n) (hn : narrow .char (.int (((f j.toNatClampNeg) &&& 255).toUInt32 % 65536).toInt32) = .int (((f j.toNatClampNeg) &&& 255).toUInt32 % 65536).toInt32) : Met l zy_lc [Jvm.Cond.code zy_lc zb_lc 2 (some .char)] (zr0 5 90) (zPc adK b z0 E [.ref t, .int j] (fun U => va_T .byte t n (fun k => .int (f k)) (zA z0) U U.heap)) (k2_QcV (.int (((f j.toNatClampNeg) &&& 255).toUInt32 % 65536).toInt32)) 0 0 (fun _ => False) := by
  refine zofW (cc := zb_lc) (maxL := 2) (ret := (some .char)) (by decide +kernel) rfl ?_
  intro p e s m args below meth c s₁ B hml hv
  obtain ⟨rfl, hE, hK⟩ := hv
  obtain ⟨hT, hRs, hSt, ⟨hU, hN⟩, ⟨hC, hSI⟩, hX, hb0, hNc, hz⟩ := id hE
  have hx := B.exec
  have hb := B.bytes
  have hr := B.returns
  have hown : s.vm.findClass zy_lc.cls = some m.cls := findClass_of_methodNamed B.named
  have hlocks := B.notSynchronized
  have hl := lv_entry ([.ref t, .int j]) (n := 2) (by simp [lg_sl, Value.category])
  rw [lg_entry_eq]
  generalize (lg_sl ([.ref t, .int j]) ++ List.replicate (2 - (lg_sl ([.ref t, .int j])).length) Slot.unset).toArray = ls at hl ⊢
  have hS : va_S (zA z0) s.heap s.heap [] := va_S.rf
  have hl : lv_has ls 2 [(0, .ref t), (1, .int j)] := hl
  refine lv_iload_n hx hb zd_lc_0 rfl (lv_at hl 1 rfl) ?_
  refine lv_aload_n hx hb zd_lc_1 rfl (lv_at hl 0 rfl) ?_
  refine va_tlen hx hb hK hS rfl zd_lc_2 ?_
  refine zcallN (a := #[]) (W.runS (As := [.int j, .int (Int32.ofNat n)]) (rest := []) (Ts := []) (nL := 2) ⟨hx, hb, hml, hown, fun _ h => nomatch h⟩ (zm_ci l adK b z0 E h0 h2) ⟨zcb hT (zin 860 rfl) (zin 198 rfl) (zin 858 rfl) rfl rfl (by decide) (by decide) ⟨by decide +kernel, by decide +kernel⟩ (show _ = some 2 from by decide +kernel), hT _ (zin 859 rfl) rfl _⟩
      ⟨zPc_blind (fun _ _ _ _ h => h), fun U hU hW => ⟨rfl, by rw [hU]; exact hE.go hW (Nat.le_refl _) (fun _ _ _ => rfl), trivial⟩⟩ rfl rfl hl.1 rfl (Nat.le_of_ble_eq_true rfl) zd_lc_3 ⟨Nat.le_refl _, Nat.le_refl _⟩) ?_
  refine lv_aload_n hx hb zd_lc_6 rfl (lv_at hl 0 rfl) ?_
  refine lv_iload_n hx hb zd_lc_7 rfl (lv_at hl 1 rfl) ?_
  refine va_tb (v := .int (f j.toNatClampNeg)) hx hb hK hS h1 rfl zd_lc_8 ?_
  refine lv_sipush (v := 255) hx hb zd_lc_9 (by decide) ?_
  refine lv_iand hx hb zd_lc_12 ?_
  refine lv_i2c (v := (((f j.toNatClampNeg) &&& 255).toUInt32 % 65536).toInt32) hx hb zd_lc_13 rfl ?_
  exact W.zret hx hb hr hn (fun t ht _ => ⟨rfl, ht⟩) (fun _ h => nomatch h) zd_lc_14
set_option maxRecDepth 100000 in
theorem zm_co {a : Nat} {bs : List Int32} : Met l zy_co [Jvm.Cond.code zy_co zb_co 1 (some .byte)] (zr0 1 30) (zPc adK b z0 E [.ref a] (fun U => zStr (zA z0) U U.heap bs a)) (k2_QcV (.int 0)) 0 0 (fun _ => False) := by
  refine zofW (cc := zb_co) (maxL := 1) (ret := (some .byte)) (by decide +kernel) rfl ?_
  intro p e s m args below meth c s₁ B hml hv
  obtain ⟨rfl, hE, hK⟩ := hv
  obtain ⟨hT, hRs, hSt, ⟨hU, hN⟩, ⟨hC, hSI⟩, hX, hb0, hNc, hz⟩ := id hE
  have hx := B.exec
  have hb := B.bytes
  have hr := B.returns
  have hown : s.vm.findClass zy_co.cls = some m.cls := findClass_of_methodNamed B.named
  have hlocks := B.notSynchronized
  have hl := lv_entry ([.ref a]) (n := 1) (by simp [lg_sl, Value.category])
  rw [lg_entry_eq]
  generalize (lg_sl ([.ref a]) ++ List.replicate (1 - (lg_sl ([.ref a])).length) Slot.unset).toArray = ls at hl ⊢
  have hS : va_S (zA z0) s.heap s.heap [] := va_S.rf
  have hl : lv_has ls 1 [(0, .ref a)] := hl
  obtain ⟨t, k1, k2, k3, k4⟩ := hK
  refine va_gets hx hb hC hS hown (hT _ (zin 845 rfl) rfl _) (fun _ h => h) zd_co_0 ?_
  refine lv_if_eq (tgt := 13) hx hb zd_co_3 (by decide) (fun z => absurd z (by decide)) (fun _ => ?_)
  refine lv_aload_n hx hb zd_co_6 rfl (lv_at hl 0 rfl) ?_
  refine vk_getf hx hb k2 hS hown (hT _ (zin 2233 rfl) rfl _) (fun _ h => h) zd_co_7 ?_
  refine lv_goto (tgt := 14) hx hb zd_co_10 (by decide) ?_
  exact W.zret hx hb hr rfl (fun t ht _ => ⟨rfl, ht⟩) (fun _ h => nomatch h) zd_co_14
set_option maxRecDepth 100000 in
theorem zm_il {a : Nat} {bs : List Int32} : Met l zy_il [Jvm.Cond.code zy_il zb_il 1 (some .boolean)] (zr0 1 30) (zPc adK b z0 E [.ref a] (fun U => zStr (zA z0) U U.heap bs a)) (k2_QcV (.int 1)) 0 0 (fun _ => False) := by
  refine zofW (cc := zb_il) (maxL := 1) (ret := (some .boolean)) (by decide +kernel) rfl ?_
  intro p e s m args below meth c s₁ B hml hv
  obtain ⟨rfl, hE, hK⟩ := hv
  obtain ⟨hT, hRs, hSt, ⟨hU, hN⟩, ⟨hC, hSI⟩, hX, hb0, hNc, hz⟩ := id hE
  have hx := B.exec
  have hb := B.bytes
  have hr := B.returns
  have hown : s.vm.findClass zy_il.cls = some m.cls := findClass_of_methodNamed B.named
  have hlocks := B.notSynchronized
  have hl := lv_entry ([.ref a]) (n := 1) (by simp [lg_sl, Value.category])
  rw [lg_entry_eq]
  generalize (lg_sl ([.ref a]) ++ List.replicate (1 - (lg_sl ([.ref a])).length) Slot.unset).toArray = ls at hl ⊢
  have hS : va_S (zA z0) s.heap s.heap [] := va_S.rf
  have hl : lv_has ls 1 [(0, .ref a)] := hl
  obtain ⟨t, k1, k2, k3, k4⟩ := hK
  refine va_gets hx hb hC hS hown (hT _ (zin 845 rfl) rfl _) (fun _ h => h) zd_il_0 ?_
  refine lv_if_eq (tgt := 17) hx hb zd_il_3 (by decide) (fun z => absurd z (by decide)) (fun _ => ?_)
  refine lv_aload_n hx hb zd_il_6 rfl (lv_at hl 0 rfl) ?_
  refine vk_getf hx hb k2 hS hown (hT _ (zin 2233 rfl) rfl _) (fun _ h => h) zd_il_7 ?_
  refine lv_if_ne (tgt := 17) hx hb zd_il_10 (by decide) (fun z => absurd rfl z) (fun _ => ?_)
  refine lv_iconst (v := 1) hx hb zd_il_13 (by decide) ?_
  refine lv_goto (tgt := 18) hx hb zd_il_14 (by decide) ?_
  exact W.zret hx hb hr rfl (fun t ht _ => ⟨rfl, ht⟩) (fun _ h => nomatch h) zd_il_18
theorem zStr_calling {A : Nat → Prop} {bs : List Int32} {a : Nat} (U : State) (g : JFrame) (mk : MethodId) (ar : Array Value) (h : zStr A U U.heap bs a) : zStr A (U.calling g mk ar) (U.calling g mk ar).heap bs a := zStr.go (s := U) (U := U.calling g mk ar) (Vm.Alike.refl U.vm) (fun _ _ _ => rfl) h
theorem zStr_recv {A : Nat → Prop} {bs : List Int32} {a : Nat} {U : State} {H : Heap} (h : zStr A U H bs a) : ∃ cellB : Cell, H[a]? = some cellB ∧ cellB.vm.isStatics = false ∧ U.vm.findClass "java/lang/String" = some cellB.cls := by
  obtain ⟨t, ⟨cell, h1, h2, h3, -⟩, -⟩ := h
  exact ⟨cell, h1, h2, h3⟩
set_option maxRecDepth 100000 in
theorem zm_le {a : Nat} {bs : List Int32} (hlen : bs.length < 2147483648) : Met l zy_le [Jvm.Cond.code zy_le zb_le 1 (some .int)] (zr0 3 60) (zPc adK b z0 E [.ref a] (fun U => zStr (zA z0) U U.heap bs a)) (k2_QcV (.int (Int32.ofNat bs.length))) 0 0 (fun _ => False) := by
  refine zofW (cc := zb_le) (maxL := 1) (ret := (some .int)) (by decide +kernel) rfl ?_
  intro p e s m args below meth c s₁ B hml hv
  obtain ⟨rfl, hE, hK⟩ := hv
  obtain ⟨hT, hRs, hSt, ⟨hU, hN⟩, ⟨hC, hSI⟩, hX, hb0, hNc, hz⟩ := id hE
  have hx := B.exec
  have hb := B.bytes
  have hr := B.returns
  have hown : s.vm.findClass zy_le.cls = some m.cls := findClass_of_methodNamed B.named
  have hlocks := B.notSynchronized
  have hl := lv_entry ([.ref a]) (n := 1) (by simp [lg_sl, Value.category])
  rw [lg_entry_eq]
  generalize (lg_sl ([.ref a]) ++ List.replicate (1 - (lg_sl ([.ref a])).length) Slot.unset).toArray = ls at hl ⊢
  have hS : va_S (zA z0) s.heap s.heap [] := va_S.rf
  have hl : lv_has ls 1 [(0, .ref a)] := hl
  obtain ⟨t, k1, k2, k3, k4⟩ := id hK
  refine lv_aload_n hx hb zd_le_0 rfl (lv_at hl 0 rfl) ?_
  refine vk_getf hx hb k3 hS hown (hT _ (zin 2232 rfl) rfl _) (fun _ h => h) zd_le_1 ?_
  refine va_tlen hx hb k4 hS rfl zd_le_4 ?_
  refine lv_aload_n hx hb zd_le_5 rfl (lv_at hl 0 rfl) ?_
  refine W.callV (W.runV (C := "java/lang/String") (As := []) (rest := [.int (Int32.ofNat bs.length)]) (Ts := []) (nL := 1) ⟨hx, hb, hml, hown, fun _ h => nomatch h⟩ (zm_co l adK b z0 E (a := a) (bs := bs)) ⟨zcb hT (zin 844 rfl) (zin 198 rfl) (zin 841 rfl) rfl rfl (by decide) (by decide) ⟨by decide +kernel, by decide +kernel⟩ (show _ = some 0 from by decide +kernel), hT _ (zin 842 rfl) rfl _, hT _ (zin 843 rfl) rfl _⟩
      ⟨zPc_blind (fun U g mk ar h => zStr_calling U g mk ar h), zStr_recv hK, fun U hU hW => ⟨rfl, by rw [hU]; exact hE.go hW (Nat.le_refl _) (fun _ _ _ => rfl), by show zStr (zA z0) U U.heap bs a; rw [hU]; exact hK.go hW.alike (fun _ _ _ => rfl)⟩⟩ rfl rfl hl.1 rfl (Nat.le_of_ble_eq_true rfl) zd_le_6 ⟨Nat.le_refl _, Nat.le_refl _⟩) ?_
  refine lv_ishr hx hb zd_le_9 ?_
  refine W.iret hx hb hr (fun t ht _ => ⟨?_, ht⟩) (fun _ h => nomatch h) zd_le_10
  have : ∀ x : Int32, x >>> ((0 : Int32) &&& 31) = x := by
    intro x
    have h0 : ((0 : Int32) &&& 31) = 0 := by decide
    rw [h0]
    exact Int32.shiftRight_zero
  rw [this]
set_option maxRecDepth 100000 in
theorem zm_ch {a : Nat} {bs : List Int32} {j : Int32} {ch : Int32} (h1 : vp_in j bs.length) (h2 : j < Int32.ofNat bs.length) (hch : zat bs j.toNatClampNeg = some ch) (hn : narrow .char (.int ch) = .int ch) (he : ((ch &&& 255).toUInt32 % 65536).toInt32 = ch) : Met l zy_ch [Jvm.Cond.code zy_ch zb_ch 2 (some .char)] (zr0 7 120) (zPc adK b z0 E [.ref a, .int j] (fun U => zStr (zA z0) U U.heap bs a)) (k2_QcV (.int ch)) 0 0 (fun _ => False) := by
  refine zofW (cc := zb_ch) (maxL := 2) (ret := (some .char)) (by decide +kernel) rfl ?_
  intro p e s m args below meth c s₁ B hml hv
  obtain ⟨rfl, hE, hK⟩ := hv
  obtain ⟨hT, hRs, hSt, ⟨hU, hN⟩, ⟨hC, hSI⟩, hX, hb0, hNc, hz⟩ := id hE
  have hx := B.exec
  have hb := B.bytes
  have hr := B.returns
  have hown : s.vm.findClass zy_ch.cls = some m.cls := findClass_of_methodNamed B.named
  have hlocks := B.notSynchronized
  have hl := lv_entry ([.ref a, .int j]) (n := 2) (by simp [lg_sl, Value.category])
  rw [lg_entry_eq]
  generalize (lg_sl ([.ref a, .int j]) ++ List.replicate (2 - (lg_sl ([.ref a, .int j])).length) Slot.unset).toArray = ls at hl ⊢
  have hS : va_S (zA z0) s.heap s.heap [] := va_S.rf
  have hl : lv_has ls 2 [(0, .ref a), (1, .int j)] := hl
  obtain ⟨t, k1, k2, k3, k4⟩ := id hK
  have hg : bs.getD j.toNatClampNeg 0 = ch := by
    rw [zat_eq] at hch
    rw [List.getD_eq_getElem?_getD, hch]
    rfl
  have hn2 : narrow .char (.int (((bs.getD j.toNatClampNeg 0) &&& 255).toUInt32 % 65536).toInt32) = .int (((bs.getD j.toNatClampNeg 0) &&& 255).toUInt32 % 65536).toInt32 := by rw [hg, he]; exact hn
  refine lv_aload_n hx hb zd_ch_0 rfl (lv_at hl 0 rfl) ?_
  refine W.callV (W.runV (C := "java/lang/String") (As := []) (rest := []) (Ts := []) (nL := 2) ⟨hx, hb, hml, hown, fun _ h => nomatch h⟩ (zm_il l adK b z0 E (a := a) (bs := bs)) ⟨zcb hT (zin 854 rfl) (zin 198 rfl) (zin 851 rfl) rfl rfl (by decide) (by decide) ⟨by decide +kernel, by decide +kernel⟩ (show _ = some 0 from by decide +kernel), hT _ (zin 852 rfl) rfl _, hT _ (zin 853 rfl) rfl _⟩
      ⟨zPc_blind (fun U g mk ar h => zStr_calling U g mk ar h), zStr_recv hK, fun U hU hW => ⟨rfl, by rw [hU]; exact hE.go hW (Nat.le_refl _) (fun _ _ _ => rfl), by show zStr (zA z0) U U.heap bs a; rw [hU]; exact hK.go hW.alike (fun _ _ _ => rfl)⟩⟩ rfl rfl hl.1 rfl (Nat.le_of_ble_eq_true rfl) zd_ch_1 ⟨Nat.le_refl _, Nat.le_refl _⟩) ?_
  refine lv_if_eq (tgt := 16) hx hb zd_ch_4 rfl (fun z => absurd z (by decide)) (fun _ => ?_)
  refine lv_aload_n hx hb zd_ch_7 rfl (lv_at hl 0 rfl) ?_
  refine vk_getf hx hb k3 hS hown (hT _ (zin 2232 rfl) rfl _) (fun _ h => h) zd_ch_8 ?_
  refine lv_iload_n hx hb zd_ch_11 rfl (lv_at hl 1 rfl) ?_
  refine W.callV (W.runS (As := [.ref t, .int j]) (rest := []) (Ts := []) (nL := 2) ⟨hx, hb, hml, hown, fun _ h => nomatch h⟩ (zm_lc l adK b z0 E (t := t) (n := bs.length) (f := fun k => bs.getD k 0) (fun z => h1 (Or.inl z)) h1 h2 hn2) ⟨zcb hT (zin 857 rfl) (zin 199 rfl) (zin 855 rfl) rfl rfl (by decide) (by decide) ⟨by decide +kernel, by decide +kernel⟩ (show _ = some 2 from by decide +kernel), hT _ (zin 856 rfl) rfl _⟩
      ⟨zPc_blind (fun U g mk ar h => va_T.moved (u := U) (U := U.calling g mk ar) (Vm.Alike.refl U.vm) h), fun U hU hW => ⟨rfl, by rw [hU]; exact hE.go hW (Nat.le_refl _) (fun _ _ _ => rfl), by show va_T .byte t bs.length (fun k => .int (bs.getD k 0)) (zA z0) U U.heap; rw [hU]; exact va_T.moved hW.alike k4⟩⟩ rfl rfl hl.1 rfl (Nat.le_of_ble_eq_true rfl) zd_ch_12 ⟨Nat.le_refl _, Nat.le_refl _⟩) ?_
  exact W.zret hx hb hr hn2 (fun t ht _ => ⟨by rw [hg, he], ht⟩) (fun _ h => nomatch h) zd_ch_15
end ZSTC
