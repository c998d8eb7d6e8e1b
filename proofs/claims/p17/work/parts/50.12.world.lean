/-! WHAT STANDS BELOW THE LAW'S OWN CELLS: the tables' words, the String constants, some statics, the script -/
def zA (z0 : Nat) : Nat → Prop := fun q => z0 ≤ q
def zgw : Jvm.Cond → Bool
  | .fieldLinkNest .. => true
  | .methodLinkNest .. => true
  | .declares _ => true
  | .castable a b => decide (a = b)
  | .arrayOver (.object _) => true
  | w => goodWord w
def zTW (U : State) : Prop := ∀ w ∈ lw_tbl, zgw w = true → ∀ a, w.before a U = true
theorem zcast_of {X : String} {U : State} {a : Array Value} {c : ClassId} (h : U.vm.findClass X = some c) : (Jvm.Cond.castable X X).before a U = true := by
  simp [Cond.before, Cond.holds, Cond.value, h, va_asg]
theorem zgw_warm {s U : State} (hW : s.WarmedH U.vm) {w : Jvm.Cond} (hg : zgw w = true) {a a' : Array Value} (h : w.before a s = true) : w.before a' U = true := by
  unfold zgw at hg
  split at hg
  · exact va_Nw.use rfl (va_Nw.warmF hW (va_Nw.of rfl h))
  · exact va_Nw.use rfl (va_Nw.warmM hW (va_Nw.of rfl h))
  · exact va_Nw.use rfl (va_Nw.warmD hW (va_Nw.of rfl h))
  · have hg := of_decide_eq_true hg
    subst hg
    obtain ⟨c3, c4, h1, h2, h3⟩ := Cond.castable_spec h
    exact zcast_of (c := c3) (by rw [hW.alike.findClass]; exact h1)
  · exact va_AO.use (va_AO.moved hW.alike (va_AO.of h))
  · exact word_at hW (good_of_word hg) h
theorem zTW.of {s : State} {args : Array Value} (h : ∀ w ∈ lw_tbl, w.before args s = true) : zTW s := fun w hw hg a => zgw_warm (State.WarmedH.refl s) hg (h w hw)
theorem zTW.warm {s U : State} (hW : s.WarmedH U.vm) (h : zTW s) : zTW U := fun w hw hg a => zgw_warm hW hg (h w hw hg #[])
theorem zTW.use {s : State} (h : zTW s) {i : Nat} {w : Jvm.Cond} (hi : zwd i w = true) (hg : zgw w = true) {a : Array Value} : w.before a s = true := by
  have h1 := zwd_s hi
  rw [zat_eq] at h1
  exact h w (List.mem_of_getElem? h1) hg a
/-- a String constant: a byte row of its own, never written -/
def zStr (A : Nat → Prop) (U : State) (H : Heap) (bs : List Int32) (a : Nat) : Prop := ∃ t, va_O "java/lang/String" a A U H ∧ va_OF "java/lang/String" "coder" "B" (.int 0) a A U H ∧ va_OF "java/lang/String" "value" "[B" (.ref t) a A U H ∧ va_T .byte t bs.length (fun j => .int (bs.getD j 0)) A U H
def zxnm : List String := ["java/lang/RuntimeException", "java/lang/Exception"]
def zEW (adK : Nat → Nat) (b z0 : Nat) (E : zE) (U : State) (H : Heap) : Prop :=
  zTW U ∧ (∀ i o k tx, zat zsref i = some (o, k, tx) → vk_R o k tx (adK i) U) ∧ (∀ i bs, zat zstrs i = some bs → zStr (zA z0) U H bs (adK i)) ∧
  (vx_Zq Bundle.tN "UNASSIGNED_STACK" Bundle.steD (zA z0) U H ∧ vx_Zq Bundle.tN "SUPPRESSED_SENTINEL" Bundle.listD (zA z0) U H) ∧
  (va_Z "java/lang/String" "COMPACT_STRINGS" "Z" (.int 1) (zA z0) U H ∧ va_Zq "jdk/internal/util/Preconditions" "SIOOBE_FORMATTER" "Ljava/util/function/BiFunction;" (zA z0) U H) ∧
  va_X b E.1 E.2 U H ∧ b < z0 ∧ (∀ x y X Y, zat zxn x = some X → zat zxn y = some Y → x ≠ y → va_Nc X Y U) ∧ z0 ≤ H.size
theorem zStr.go {A : Nat → Prop} {s U : State} {H H' : Heap} {bs : List Int32} {a : Nat} (hv : s.vm.Alike U.vm) (hq : ∀ a : Nat, a < H.size → ¬ A a → H'[a]? = H[a]?) (h : zStr A s H bs a) : zStr A U H' bs a := by
  obtain ⟨t, h1, h2, h3, h4⟩ := h
  exact ⟨t, (va_O.moved hv h1).kept hq, (va_OF.moved hv h2).kept hq, (va_OF.moved hv h3).kept hq, (va_T.moved hv h4).kept hq⟩
theorem zEW.go {adK : Nat → Nat} {b z0 : Nat} {E : zE} {s U : State} {H H' : Heap} (hW : s.WarmedH U.vm) (hz : H.size ≤ H'.size) (hq : ∀ a : Nat, a < H.size → ¬ zA z0 a → H'[a]? = H[a]?) (h : zEW adK b z0 E s H) : zEW adK b z0 E U H' := by
  obtain ⟨h1, h2, h3, ⟨h4, h5⟩, ⟨h6, h7⟩, h8, h9, h10, h11⟩ := h
  have hv := hW.alike
  refine ⟨h1.warm hW, fun i o k tx hi => vk_R.warm hW (h2 i o k tx hi), fun i bs hi => (h3 i bs hi).go hv hq, ⟨(vx_Zq.moved hv h4).kept hq, (vx_Zq.moved hv h5).kept hq⟩, ⟨(va_Z.moved hv h6).kept hq, (va_Zq.moved hv h7).kept hq⟩, ?_, h9, fun x y X Y hx hy hn => (h10 x y X Y hx hy hn).moved hv, Nat.le_trans h11 hz⟩
  exact (va_X.moved hv h8).kept (hq b (Nat.lt_of_lt_of_le h9 h11) (Nat.not_le.mpr h9))
/-- the frame of a method of the table -/
def zFr (p : Program) (s : State) (m : MethodId) (meth : Method) (c : Code) (y : MethodName) (cc : ByteArray) (mL : Nat) (ret : Option FieldType) (hh : List (Nat × Nat × Nat × Nat)) : Prop :=
  p.tables.exec = Jvm.exec ∧ c.code = cc ∧ meth.sig.returnType = ret ∧ c.maxLocals = mL ∧ s.vm.findClass y.cls = some m.cls ∧ meth.locks = false ∧ meth.name = y.name ∧ c.exceptionTable.toList = tableOf hh
def zVo (adK : Nat → Nat) (b : Nat) (ws : va_W) : Option Value → Option Value → Prop
  | none, rv => rv = none
  | some v, rv => ∃ x, rv = some x ∧ zV adK b ws v x
/-- what a method answers, and the world behind it -/
def zEnd (D : va_G) (z0 : Nat) (ws0 : va_W) (tys : List (ClassId × FieldType)) (ws : va_W) (h : zH) (st t : State) : Prop :=
  zExt ws0 ws ∧ va_K D vwCl tys t ∧ va_P D vwCl ws t.heap ∧ va_D (zA z0) ws ∧ zRel tys ws h ∧ va_F (zA z0) st t
def zQc (D : va_G) (adK : Nat → Nat) (b z0 : Nat) (ws0 : va_W) (r : Option Value ⊕ Nat) (h : zH) : Array Value → State → Outcome → State → Prop := fun _ st o t =>
  ∃ v rv tys ws, r = .inl v ∧ o = .returned rv ∧ zVo adK b ws v rv ∧ zEnd D z0 ws0 tys ws h st t
def zXC (D : va_G) (z0 : Nat) (ws0 : va_W) (r : Option Value ⊕ Nat) (h : zH) : String → State → State → Prop := fun X st t =>
  ∃ x tys ws, r = .inr x ∧ zat zxn x = some X ∧ zEnd D z0 ws0 tys ws h st t
def zRm (d : Nat) (mc ms : Nat) : Room := { frames := d + 10, cells := mc, slots := ms, locals := 64 * d + 300 }
section ZWK
variable (p : Program) (l : Launch) (e : Env) (R : Room) (s : State) (m : MethodId) (args : Array Value) (below : List Frame) (meth : Method) (c : Code)
/-- from here on the machine does what the evaluator answers -/
def zGo (D : va_G) (adK : Nat → Nat) (b z0 mL : Nat) (ws0 : va_W) (mc ms : Nat) (r : Option Value ⊕ Nat) (h' : zH) (pc : Nat) (ls : zLs) (st : List Value) (h : zH) : Prop :=
  ∀ (H : Heap) (locs : List Loc) (cells slots : Nat) (tys : List (ClassId × FieldType)) (ws : va_W) (rst : List Value) (LS : Array Slot) (lv : List (Nat × Value)),
    cells + h'.2.2.2.1 ≤ mc + h.2.2.2.1 → slots + h'.2.2.2.2 ≤ ms + h.2.2.2.2 → va_K D vwCl tys s → va_P D vwCl ws H → va_D (zA z0) ws → va_S (zA z0) s.heap H locs → zRel tys ws h → zExt ws0 ws → zVs adK b ws st rst → zLr adK b ws ls lv → lv_has LS mL lv →
    W p l e R s m args below meth c H locs cells slots (vx_MQ below (zQc D adK b z0 ws0 r h') (zXC D z0 ws0 r h') args s mc ms (zA z0)) (F0 m pc LS rst)
end ZWK
/-- the whole of it: for a function that may stand for the evaluator -/
def zWk (l : Launch) (D : va_G) (adK : Nat → Nat) (b z0 : Nat) (E : zE) (f : zF) : Prop :=
  ∀ d mi pc ls st h r h', f d mi pc ls st h = some (r, h') →
  ∀ (p : Program) (e : Env) (R : Room) (s : State) (m : MethodId) (args : Array Value) (below : List Frame) (meth : Method) (c : Code) (y : MethodName) (cc : ByteArray) (mL : Nat) (ret : Option FieldType) (hh : List (Nat × Nat × Nat × Nat)) (q : Nat × Nat × Nat × Nat) (ws0 : va_W) (mc ms : Nat),
    zat zmn mi = some (y, cc, mL, ret, hh, q) → zFr p s m meth c y cc mL ret hh → zEW adK b z0 E s s.heap → d + 10 ≤ R.frames → 64 * d + 300 ≤ R.locals → mc ≤ R.cells → ms ≤ R.slots →
    zGo p l e R s m args below meth c D adK b z0 mL ws0 mc ms r h' pc ls st h
