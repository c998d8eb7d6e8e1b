/-! ONE INSTRUCTION: what the evaluator does, the machine does -/
section ZSTEP
variable {p : Program} {l : Launch} {e : Env} {R : Room} {s : State} {m : MethodId} {args : Array Value} {below : List Frame} {meth : Method} {c : Code}
variable {D : va_G} {adK : Nat → Nat} {b z0 : Nat} {E : zE} {y : MethodName} {cc : ByteArray} {mL : Nat} {ret : Option FieldType} {hh : List (Nat × Nat × Nat × Nat)} {ws0 : va_W} {mc ms : Nat} {r : Option Value ⊕ Nat} {h' : zH}
variable {pc : Nat} {ls : zLs} {st r1 : List Value} {h : zH}
theorem zld_at {ws : va_W} {ls : zLs} {lv : List (Nat × Value)} {LS : Array Slot} {nL i : Nat} {v : Value} (hl : zLr adK b ws ls lv) (hh : lv_has LS nL lv) (hi : zat ls i = some (some v)) : ∃ rv, zV adK b ws v rv ∧ LS[i]? = some (.val rv) := by
  obtain ⟨rv, h1, h2⟩ := hl i v hi
  exact ⟨rv, h1, hh.2.2 _ h2⟩

theorem zs_iconst (X : zFr p s m meth c y cc mL ret hh) {n : Int} {z : Int32} (hd : decode cc pc = .ok (.iconst n, 1)) (hz : Int32.ofInt n = z) (K : zGo p l e R s m args below meth c D adK b z0 mL ws0 mc ms r h' (pc + 1) (ls) (.int z :: st) (h)) : zGo p l e R s m args below meth c D adK b z0 mL ws0 mc ms r h' (pc) (ls) (st) (h) := by
  intro H locs cells slots tys ws rst LS lv b1 b2 hK hP hD hS hR hE hv hl hL
  obtain ⟨hx, hb, hr, hml, hown, hlocks, hname, hexc⟩ := X
  exact lv_iconst hx hb hd hz (K H locs cells slots tys ws _ LS lv b1 b2 hK hP hD hS hR hE ⟨_, _, rfl, rfl, hv⟩ hl hL)

theorem zs_bipush (X : zFr p s m meth c y cc mL ret hh) {n : Int} {z : Int32} (hd : decode cc pc = .ok (.bipush n, 2)) (hz : (Int8.ofInt n).toInt32 = z) (K : zGo p l e R s m args below meth c D adK b z0 mL ws0 mc ms r h' (pc + 2) (ls) (.int z :: st) (h)) : zGo p l e R s m args below meth c D adK b z0 mL ws0 mc ms r h' (pc) (ls) (st) (h) := by
  intro H locs cells slots tys ws rst LS lv b1 b2 hK hP hD hS hR hE hv hl hL
  obtain ⟨hx, hb, hr, hml, hown, hlocks, hname, hexc⟩ := X
  exact lv_bipush hx hb hd hz (K H locs cells slots tys ws _ LS lv b1 b2 hK hP hD hS hR hE ⟨_, _, rfl, rfl, hv⟩ hl hL)

theorem zs_sipush (X : zFr p s m meth c y cc mL ret hh) {n : Int} {z : Int32} (hd : decode cc pc = .ok (.sipush n, 3)) (hz : (Int16.ofInt n).toInt32 = z) (K : zGo p l e R s m args below meth c D adK b z0 mL ws0 mc ms r h' (pc + 3) (ls) (.int z :: st) (h)) : zGo p l e R s m args below meth c D adK b z0 mL ws0 mc ms r h' (pc) (ls) (st) (h) := by
  intro H locs cells slots tys ws rst LS lv b1 b2 hK hP hD hS hR hE hv hl hL
  obtain ⟨hx, hb, hr, hml, hown, hlocks, hname, hexc⟩ := X
  exact lv_sipush hx hb hd hz (K H locs cells slots tys ws _ LS lv b1 b2 hK hP hD hS hR hE ⟨_, _, rfl, rfl, hv⟩ hl hL)

theorem zs_lconst (X : zFr p s m meth c y cc mL ret hh) {n : Fin 2} {z : Int64} (hd : decode cc pc = .ok (.lconst n, 1)) (hz : Int64.ofNat (n : Nat) = z) (K : zGo p l e R s m args below meth c D adK b z0 mL ws0 mc ms r h' (pc + 1) (ls) (.long z :: st) (h)) : zGo p l e R s m args below meth c D adK b z0 mL ws0 mc ms r h' (pc) (ls) (st) (h) := by
  intro H locs cells slots tys ws rst LS lv b1 b2 hK hP hD hS hR hE hv hl hL
  obtain ⟨hx, hb, hr, hml, hown, hlocks, hname, hexc⟩ := X
  exact lv_lconst hx hb hd hz (K H locs cells slots tys ws _ LS lv b1 b2 hK hP hD hS hR hE ⟨_, _, rfl, rfl, hv⟩ hl hL)

theorem zs_null (X : zFr p s m meth c y cc mL ret hh) (hd : decode cc pc = .ok (.aconst_null, 1)) (K : zGo p l e R s m args below meth c D adK b z0 mL ws0 mc ms r h' (pc + 1) (ls) (.null :: st) (h)) : zGo p l e R s m args below meth c D adK b z0 mL ws0 mc ms r h' (pc) (ls) (st) (h) := by
  intro H locs cells slots tys ws rst LS lv b1 b2 hK hP hD hS hR hE hv hl hL
  obtain ⟨hx, hb, hr, hml, hown, hlocks, hname, hexc⟩ := X
  exact lv_null hx hb hd (K H locs cells slots tys ws _ LS lv b1 b2 hK hP hD hS hR hE ⟨_, _, rfl, rfl, hv⟩ hl hL)

theorem zs_ldc (X : zFr p s m meth c y cc mL ret hh) {n : Nat} {z : Int32} (hd : decode cc pc = .ok (.ldc n, 2)) (hw : (Jvm.Cond.constant y.cls n z).before args s = true) (K : zGo p l e R s m args below meth c D adK b z0 mL ws0 mc ms r h' (pc + 2) (ls) (.int z :: st) (h)) : zGo p l e R s m args below meth c D adK b z0 mL ws0 mc ms r h' (pc) (ls) (st) (h) := by
  intro H locs cells slots tys ws rst LS lv b1 b2 hK hP hD hS hR hE hv hl hL
  obtain ⟨hx, hb, hr, hml, hown, hlocks, hname, hexc⟩ := X
  exact lv_ldc hx hb hown hw hd (K H locs cells slots tys ws _ LS lv b1 b2 hK hP hD hS hR hE ⟨_, _, rfl, rfl, hv⟩ hl hL)

theorem zs_ldcw (X : zFr p s m meth c y cc mL ret hh) {n : Nat} {z : Int32} (hd : decode cc pc = .ok (.ldc_w n, 3)) (hw : (Jvm.Cond.constant y.cls n z).before args s = true) (K : zGo p l e R s m args below meth c D adK b z0 mL ws0 mc ms r h' (pc + 3) (ls) (.int z :: st) (h)) : zGo p l e R s m args below meth c D adK b z0 mL ws0 mc ms r h' (pc) (ls) (st) (h) := by
  intro H locs cells slots tys ws rst LS lv b1 b2 hK hP hD hS hR hE hv hl hL
  obtain ⟨hx, hb, hr, hml, hown, hlocks, hname, hexc⟩ := X
  exact lv_ldcw hx hb hown hw hd (K H locs cells slots tys ws _ LS lv b1 b2 hK hP hD hS hR hE ⟨_, _, rfl, rfl, hv⟩ hl hL)

theorem zs_ldcS (X : zFr p s m meth c y cc mL ret hh) {n i : Nat} {tx : String} (hd : decode cc pc = .ok (.ldc n, 2)) (hw : vk_R y.cls n tx (adK i) s) (K : zGo p l e R s m args below meth c D adK b z0 mL ws0 mc ms r h' (pc + 2) (ls) (.retAddr i :: st) (h)) : zGo p l e R s m args below meth c D adK b z0 mL ws0 mc ms r h' (pc) (ls) (st) (h) := by
  intro H locs cells slots tys ws rst LS lv b1 b2 hK hP hD hS hR hE hv hl hL
  obtain ⟨hx, hb, hr, hml, hown, hlocks, hname, hexc⟩ := X
  exact va_ldcS hx hb hown hw hd (K H locs cells slots tys ws _ LS lv b1 b2 hK hP hD hS hR hE ⟨_, _, rfl, rfl, hv⟩ hl hL)

theorem zs_ldc2 (X : zFr p s m meth c y cc mL ret hh) {n : Nat} {z : Int64} (hd : decode cc pc = .ok (.ldc2_w n, 3)) (hw : (Jvm.Cond.constantLong y.cls n z).before args s = true) (K : zGo p l e R s m args below meth c D adK b z0 mL ws0 mc ms r h' (pc + 3) (ls) (.long z :: st) (h)) : zGo p l e R s m args below meth c D adK b z0 mL ws0 mc ms r h' (pc) (ls) (st) (h) := by
  intro H locs cells slots tys ws rst LS lv b1 b2 hK hP hD hS hR hE hv hl hL
  obtain ⟨hx, hb, hr, hml, hown, hlocks, hname, hexc⟩ := X
  exact W.ldc2 hx hb hown hw (g := F0 m pc LS rst) rfl hd (K H locs cells slots tys ws _ LS lv b1 b2 hK hP hD hS hR hE ⟨_, _, rfl, rfl, hv⟩ hl hL)

theorem zs_iload (X : zFr p s m meth c y cc mL ret hh) {i : Nat} {x : Int32} (hd : decode cc pc = .ok (.iload i, 2)) (hi : zat ls i = some (some (.int x))) (K : zGo p l e R s m args below meth c D adK b z0 mL ws0 mc ms r h' (pc + 2) (ls) (.int x :: st) (h)) : zGo p l e R s m args below meth c D adK b z0 mL ws0 mc ms r h' (pc) (ls) (st) (h) := by
  intro H locs cells slots tys ws rst LS lv b1 b2 hK hP hD hS hR hE hv hl hL
  obtain ⟨hx, hb, hr, hml, hown, hlocks, hname, hexc⟩ := X
  obtain ⟨rv, h1, h2⟩ := zld_at hl hL hi
  cases (show rv = .int x from h1)
  exact lv_iload hx hb hd h2 (K H locs cells slots tys ws _ LS lv b1 b2 hK hP hD hS hR hE ⟨_, _, rfl, rfl, hv⟩ hl hL)

theorem zs_iload_n (X : zFr p s m meth c y cc mL ret hh) {i : Fin 4} {x : Int32} (hd : decode cc pc = .ok (.iload_n i, 1)) (hi : zat ls i.val = some (some (.int x))) (K : zGo p l e R s m args below meth c D adK b z0 mL ws0 mc ms r h' (pc + 1) (ls) (.int x :: st) (h)) : zGo p l e R s m args below meth c D adK b z0 mL ws0 mc ms r h' (pc) (ls) (st) (h) := by
  intro H locs cells slots tys ws rst LS lv b1 b2 hK hP hD hS hR hE hv hl hL
  obtain ⟨hx, hb, hr, hml, hown, hlocks, hname, hexc⟩ := X
  obtain ⟨rv, h1, h2⟩ := zld_at hl hL hi
  cases (show rv = .int x from h1)
  exact lv_iload_n hx hb hd rfl h2 (K H locs cells slots tys ws _ LS lv b1 b2 hK hP hD hS hR hE ⟨_, _, rfl, rfl, hv⟩ hl hL)

theorem zs_lload (X : zFr p s m meth c y cc mL ret hh) {i : Nat} {x : Int64} (hd : decode cc pc = .ok (.lload i, 2)) (hi : zat ls i = some (some (.long x))) (K : zGo p l e R s m args below meth c D adK b z0 mL ws0 mc ms r h' (pc + 2) (ls) (.long x :: st) (h)) : zGo p l e R s m args below meth c D adK b z0 mL ws0 mc ms r h' (pc) (ls) (st) (h) := by
  intro H locs cells slots tys ws rst LS lv b1 b2 hK hP hD hS hR hE hv hl hL
  obtain ⟨hx, hb, hr, hml, hown, hlocks, hname, hexc⟩ := X
  obtain ⟨rv, h1, h2⟩ := zld_at hl hL hi
  cases (show rv = .long x from h1)
  exact lv_lload hx hb hd h2 (K H locs cells slots tys ws _ LS lv b1 b2 hK hP hD hS hR hE ⟨_, _, rfl, rfl, hv⟩ hl hL)

theorem zs_lload_n (X : zFr p s m meth c y cc mL ret hh) {i : Fin 4} {x : Int64} (hd : decode cc pc = .ok (.lload_n i, 1)) (hi : zat ls i.val = some (some (.long x))) (K : zGo p l e R s m args below meth c D adK b z0 mL ws0 mc ms r h' (pc + 1) (ls) (.long x :: st) (h)) : zGo p l e R s m args below meth c D adK b z0 mL ws0 mc ms r h' (pc) (ls) (st) (h) := by
  intro H locs cells slots tys ws rst LS lv b1 b2 hK hP hD hS hR hE hv hl hL
  obtain ⟨hx, hb, hr, hml, hown, hlocks, hname, hexc⟩ := X
  obtain ⟨rv, h1, h2⟩ := zld_at hl hL hi
  cases (show rv = .long x from h1)
  exact lv_lload_n hx hb hd rfl h2 (K H locs cells slots tys ws _ LS lv b1 b2 hK hP hD hS hR hE ⟨_, _, rfl, rfl, hv⟩ hl hL)

theorem zs_aload (X : zFr p s m meth c y cc mL ret hh) {i : Nat} {v : Value} (hd : decode cc pc = .ok (.aload i, 2)) (hi : zat ls i = some (some v)) (hv1 : zisA v = true) (K : zGo p l e R s m args below meth c D adK b z0 mL ws0 mc ms r h' (pc + 2) (ls) (v :: st) (h)) : zGo p l e R s m args below meth c D adK b z0 mL ws0 mc ms r h' (pc) (ls) (st) (h) := by
  intro H locs cells slots tys ws rst LS lv b1 b2 hK hP hD hS hR hE hv hl hL
  obtain ⟨hx, hb, hr, hml, hown, hlocks, hname, hexc⟩ := X
  obtain ⟨rv, h1, h2⟩ := zld_at hl hL hi
  have K2 : ∀ rv, zV adK b ws v rv → W p l e R s m args below meth c H locs cells slots (vx_MQ below (zQc D adK b z0 ws0 r h') (zXC D z0 ws0 r h') args s mc ms (zA z0)) (F0 m (pc + 2) LS (rv :: rst)) := fun rv h1 => K H locs cells slots tys ws _ LS lv b1 b2 hK hP hD hS hR hE ⟨_, _, rfl, h1, hv⟩ hl hL
  have K1 := K2 rv h1
  cases v with
  | ref k => obtain ⟨a, -, rfl⟩ := h1; exact lv_aload hx hb hd h2 K1
  | null => cases h1; exact lv_aloadN hx hb hd h2 K1
  | retAddr k => cases h1; exact lv_aload hx hb hd h2 K1
  | float k => cases h1; exact lv_aload hx hb hd h2 K1
  | double k => obtain ⟨a, rfl⟩ := h1; exact lv_aload hx hb hd h2 K1
  | int k => cases hv1
  | long k => cases hv1

theorem zs_aload_n (X : zFr p s m meth c y cc mL ret hh) {i : Fin 4} {v : Value} (hd : decode cc pc = .ok (.aload_n i, 1)) (hi : zat ls i.val = some (some v)) (hv1 : zisA v = true) (K : zGo p l e R s m args below meth c D adK b z0 mL ws0 mc ms r h' (pc + 1) (ls) (v :: st) (h)) : zGo p l e R s m args below meth c D adK b z0 mL ws0 mc ms r h' (pc) (ls) (st) (h) := by
  intro H locs cells slots tys ws rst LS lv b1 b2 hK hP hD hS hR hE hv hl hL
  obtain ⟨hx, hb, hr, hml, hown, hlocks, hname, hexc⟩ := X
  obtain ⟨rv, h1, h2⟩ := zld_at hl hL hi
  have K2 : ∀ rv, zV adK b ws v rv → W p l e R s m args below meth c H locs cells slots (vx_MQ below (zQc D adK b z0 ws0 r h') (zXC D z0 ws0 r h') args s mc ms (zA z0)) (F0 m (pc + 1) LS (rv :: rst)) := fun rv h1 => K H locs cells slots tys ws _ LS lv b1 b2 hK hP hD hS hR hE ⟨_, _, rfl, h1, hv⟩ hl hL
  have K1 := K2 rv h1
  cases v with
  | ref k => obtain ⟨a, -, rfl⟩ := h1; exact lv_aload_n hx hb hd rfl h2 K1
  | null => cases h1; exact lv_aload_nN hx hb hd rfl h2 K1
  | retAddr k => cases h1; exact lv_aload_n hx hb hd rfl h2 K1
  | float k => cases h1; exact lv_aload_n hx hb hd rfl h2 K1
  | double k => obtain ⟨a, rfl⟩ := h1; exact lv_aload_n hx hb hd rfl h2 K1
  | int k => cases hv1
  | long k => cases hv1

theorem zs_istore (X : zFr p s m meth c y cc mL ret hh) {i : Nat} {x : Int32} (hd : decode cc pc = .ok (.istore i, 2)) (hn : i < mL) (K : zGo p l e R s m args below meth c D adK b z0 mL ws0 mc ms r h' (pc + 2) (zstl ls (i) (.int x)) (r1) (h)) : zGo p l e R s m args below meth c D adK b z0 mL ws0 mc ms r h' (pc) (ls) (.int x :: r1) (h) := by
  intro H locs cells slots tys ws rst LS lv b1 b2 hK hP hD hS hR hE hv hl hL
  obtain ⟨hx, hb, hr, hml, hown, hlocks, hname, hexc⟩ := X
  obtain ⟨_, _, rfl, rfl, hv⟩ := hv
  exact lv_istore hx hb hd hL hn rfl (fun LS2 hL2 => K H locs cells slots tys ws _ LS2 _ b1 b2 hK hP hD hS hR hE hv (zLr.st hl rfl rfl) hL2)

theorem zs_istore_n (X : zFr p s m meth c y cc mL ret hh) {i : Fin 4} {x : Int32} (hd : decode cc pc = .ok (.istore_n i, 1)) (hn : i.val < mL) (K : zGo p l e R s m args below meth c D adK b z0 mL ws0 mc ms r h' (pc + 1) (zstl ls (i.val) (.int x)) (r1) (h)) : zGo p l e R s m args below meth c D adK b z0 mL ws0 mc ms r h' (pc) (ls) (.int x :: r1) (h) := by
  intro H locs cells slots tys ws rst LS lv b1 b2 hK hP hD hS hR hE hv hl hL
  obtain ⟨hx, hb, hr, hml, hown, hlocks, hname, hexc⟩ := X
  obtain ⟨_, _, rfl, rfl, hv⟩ := hv
  exact lv_istore_n hx hb hd rfl hL hn rfl (fun LS2 hL2 => K H locs cells slots tys ws _ LS2 _ b1 b2 hK hP hD hS hR hE hv (zLr.st hl rfl rfl) hL2)

theorem zs_lstore (X : zFr p s m meth c y cc mL ret hh) {i : Nat} {x : Int64} (hd : decode cc pc = .ok (.lstore i, 2)) (hn : i + 1 < mL) (K : zGo p l e R s m args below meth c D adK b z0 mL ws0 mc ms r h' (pc + 2) (zset (zstl ls (i) (.long x)) (i + 1) none) (r1) (h)) : zGo p l e R s m args below meth c D adK b z0 mL ws0 mc ms r h' (pc) (ls) (.long x :: r1) (h) := by
  intro H locs cells slots tys ws rst LS lv b1 b2 hK hP hD hS hR hE hv hl hL
  obtain ⟨hx, hb, hr, hml, hown, hlocks, hname, hexc⟩ := X
  obtain ⟨_, _, rfl, rfl, hv⟩ := hv
  exact lv_lstore hx hb hd hL hn rfl (fun LS2 hL2 => K H locs cells slots tys ws _ LS2 _ b1 b2 hK hP hD hS hR hE hv (zLr.stJ hl rfl rfl) hL2)

theorem zs_lstore_n (X : zFr p s m meth c y cc mL ret hh) {i : Fin 4} {x : Int64} (hd : decode cc pc = .ok (.lstore_n i, 1)) (hn : i.val + 1 < mL) (K : zGo p l e R s m args below meth c D adK b z0 mL ws0 mc ms r h' (pc + 1) (zset (zstl ls (i.val) (.long x)) (i.val + 1) none) (r1) (h)) : zGo p l e R s m args below meth c D adK b z0 mL ws0 mc ms r h' (pc) (ls) (.long x :: r1) (h) := by
  intro H locs cells slots tys ws rst LS lv b1 b2 hK hP hD hS hR hE hv hl hL
  obtain ⟨hx, hb, hr, hml, hown, hlocks, hname, hexc⟩ := X
  obtain ⟨_, _, rfl, rfl, hv⟩ := hv
  exact lv_lstore_n hx hb hd rfl hL hn rfl (fun LS2 hL2 => K H locs cells slots tys ws _ LS2 _ b1 b2 hK hP hD hS hR hE hv (zLr.stJ hl rfl rfl) hL2)

theorem zs_astore (X : zFr p s m meth c y cc mL ret hh) {i : Nat} {v : Value} (hd : decode cc pc = .ok (.astore i, 2)) (hv1 : (∃ x, v = .ref x) ∨ ∃ x, v = .double x) (hn : i < mL) (K : zGo p l e R s m args below meth c D adK b z0 mL ws0 mc ms r h' (pc + 2) (zstl ls (i) v) (r1) (h)) : zGo p l e R s m args below meth c D adK b z0 mL ws0 mc ms r h' (pc) (ls) (v :: r1) (h) := by
  intro H locs cells slots tys ws rst LS lv b1 b2 hK hP hD hS hR hE hv hl hL
  obtain ⟨hx, hb, hr, hml, hown, hlocks, hname, hexc⟩ := X
  obtain ⟨rv, _, rfl, h1, hv⟩ := hv
  obtain ⟨a, rfl⟩ : ∃ a, rv = .ref a := by
    rcases hv1 with ⟨x, rfl⟩ | ⟨x, rfl⟩
    · obtain ⟨a, -, h2⟩ := h1; exact ⟨a, h2⟩
    · exact h1
  exact lv_astore hx hb hd hL hn rfl (fun LS2 hL2 => K H locs cells slots tys ws _ LS2 _ b1 b2 hK hP hD hS hR hE hv (zLr.st hl h1 rfl) hL2)

theorem zs_astore_n (X : zFr p s m meth c y cc mL ret hh) {i : Fin 4} {v : Value} (hd : decode cc pc = .ok (.astore_n i, 1)) (hv1 : (∃ x, v = .ref x) ∨ ∃ x, v = .double x) (hn : i.val < mL) (K : zGo p l e R s m args below meth c D adK b z0 mL ws0 mc ms r h' (pc + 1) (zstl ls (i.val) v) (r1) (h)) : zGo p l e R s m args below meth c D adK b z0 mL ws0 mc ms r h' (pc) (ls) (v :: r1) (h) := by
  intro H locs cells slots tys ws rst LS lv b1 b2 hK hP hD hS hR hE hv hl hL
  obtain ⟨hx, hb, hr, hml, hown, hlocks, hname, hexc⟩ := X
  obtain ⟨rv, _, rfl, h1, hv⟩ := hv
  obtain ⟨a, rfl⟩ : ∃ a, rv = .ref a := by
    rcases hv1 with ⟨x, rfl⟩ | ⟨x, rfl⟩
    · obtain ⟨a, -, h2⟩ := h1; exact ⟨a, h2⟩
    · exact h1
  exact lv_astore_n hx hb hd rfl hL hn rfl (fun LS2 hL2 => K H locs cells slots tys ws _ LS2 _ b1 b2 hK hP hD hS hR hE hv (zLr.st hl h1 rfl) hL2)

theorem zs_iinc (X : zFr p s m meth c y cc mL ret hh) {i : Nat} {n : Int} {x z : Int32} (hd : decode cc pc = .ok (.iinc i n, 3)) (hz : Int32.ofInt n = z) (hi : zat ls i = some (some (.int x))) (hn : i < mL) (K : zGo p l e R s m args below meth c D adK b z0 mL ws0 mc ms r h' (pc + 3) (zstl ls i (.int (x + z))) (st) (h)) : zGo p l e R s m args below meth c D adK b z0 mL ws0 mc ms r h' (pc) (ls) (st) (h) := by
  intro H locs cells slots tys ws rst LS lv b1 b2 hK hP hD hS hR hE hv hl hL
  obtain ⟨hx, hb, hr, hml, hown, hlocks, hname, hexc⟩ := X
  obtain ⟨rv, h1, h2⟩ := hl i _ hi
  cases (show rv = .int x from h1)
  obtain ⟨k, hk⟩ := List.getElem?_of_mem h2
  exact lv_iinc (v := x + z) hx hb hd hL hk (by rw [hz]) hn rfl (fun LS2 hL2 => K H locs cells slots tys ws _ LS2 _ b1 b2 hK hP hD hS hR hE hv (zLr.st hl rfl rfl) hL2)

theorem zs_iadd (X : zFr p s m meth c y cc mL ret hh) {x y' : Int32} (hd : decode cc pc = .ok (.iadd, 1)) (K : zGo p l e R s m args below meth c D adK b z0 mL ws0 mc ms r h' (pc + 1) (ls) (.int (x + y') :: r1) (h)) : zGo p l e R s m args below meth c D adK b z0 mL ws0 mc ms r h' (pc) (ls) (.int y' :: .int x :: r1) (h) := by
  intro H locs cells slots tys ws rst LS lv b1 b2 hK hP hD hS hR hE hv hl hL
  obtain ⟨hx, hb, hr, hml, hown, hlocks, hname, hexc⟩ := X
  obtain ⟨_, _, rfl, rfl, _, _, rfl, rfl, hv⟩ := hv
  exact lv_iadd hx hb hd (K H locs cells slots tys ws _ LS lv b1 b2 hK hP hD hS hR hE ⟨_, _, rfl, rfl, hv⟩ hl hL)

theorem zs_isub (X : zFr p s m meth c y cc mL ret hh) {x y' : Int32} (hd : decode cc pc = .ok (.isub, 1)) (K : zGo p l e R s m args below meth c D adK b z0 mL ws0 mc ms r h' (pc + 1) (ls) (.int (x - y') :: r1) (h)) : zGo p l e R s m args below meth c D adK b z0 mL ws0 mc ms r h' (pc) (ls) (.int y' :: .int x :: r1) (h) := by
  intro H locs cells slots tys ws rst LS lv b1 b2 hK hP hD hS hR hE hv hl hL
  obtain ⟨hx, hb, hr, hml, hown, hlocks, hname, hexc⟩ := X
  obtain ⟨_, _, rfl, rfl, _, _, rfl, rfl, hv⟩ := hv
  exact lv_isub hx hb hd (K H locs cells slots tys ws _ LS lv b1 b2 hK hP hD hS hR hE ⟨_, _, rfl, rfl, hv⟩ hl hL)

theorem zs_imul (X : zFr p s m meth c y cc mL ret hh) {x y' : Int32} (hd : decode cc pc = .ok (.imul, 1)) (K : zGo p l e R s m args below meth c D adK b z0 mL ws0 mc ms r h' (pc + 1) (ls) (.int (x * y') :: r1) (h)) : zGo p l e R s m args below meth c D adK b z0 mL ws0 mc ms r h' (pc) (ls) (.int y' :: .int x :: r1) (h) := by
  intro H locs cells slots tys ws rst LS lv b1 b2 hK hP hD hS hR hE hv hl hL
  obtain ⟨hx, hb, hr, hml, hown, hlocks, hname, hexc⟩ := X
  obtain ⟨_, _, rfl, rfl, _, _, rfl, rfl, hv⟩ := hv
  exact lv_imul hx hb hd (K H locs cells slots tys ws _ LS lv b1 b2 hK hP hD hS hR hE ⟨_, _, rfl, rfl, hv⟩ hl hL)

theorem zs_iand (X : zFr p s m meth c y cc mL ret hh) {x y' : Int32} (hd : decode cc pc = .ok (.iand, 1)) (K : zGo p l e R s m args below meth c D adK b z0 mL ws0 mc ms r h' (pc + 1) (ls) (.int (x &&& y') :: r1) (h)) : zGo p l e R s m args below meth c D adK b z0 mL ws0 mc ms r h' (pc) (ls) (.int y' :: .int x :: r1) (h) := by
  intro H locs cells slots tys ws rst LS lv b1 b2 hK hP hD hS hR hE hv hl hL
  obtain ⟨hx, hb, hr, hml, hown, hlocks, hname, hexc⟩ := X
  obtain ⟨_, _, rfl, rfl, _, _, rfl, rfl, hv⟩ := hv
  exact lv_iand hx hb hd (K H locs cells slots tys ws _ LS lv b1 b2 hK hP hD hS hR hE ⟨_, _, rfl, rfl, hv⟩ hl hL)

theorem zs_ior (X : zFr p s m meth c y cc mL ret hh) {x y' : Int32} (hd : decode cc pc = .ok (.ior, 1)) (K : zGo p l e R s m args below meth c D adK b z0 mL ws0 mc ms r h' (pc + 1) (ls) (.int (x ||| y') :: r1) (h)) : zGo p l e R s m args below meth c D adK b z0 mL ws0 mc ms r h' (pc) (ls) (.int y' :: .int x :: r1) (h) := by
  intro H locs cells slots tys ws rst LS lv b1 b2 hK hP hD hS hR hE hv hl hL
  obtain ⟨hx, hb, hr, hml, hown, hlocks, hname, hexc⟩ := X
  obtain ⟨_, _, rfl, rfl, _, _, rfl, rfl, hv⟩ := hv
  exact lv_ior hx hb hd (K H locs cells slots tys ws _ LS lv b1 b2 hK hP hD hS hR hE ⟨_, _, rfl, rfl, hv⟩ hl hL)

theorem zs_ixor (X : zFr p s m meth c y cc mL ret hh) {x y' : Int32} (hd : decode cc pc = .ok (.ixor, 1)) (K : zGo p l e R s m args below meth c D adK b z0 mL ws0 mc ms r h' (pc + 1) (ls) (.int (x ^^^ y') :: r1) (h)) : zGo p l e R s m args below meth c D adK b z0 mL ws0 mc ms r h' (pc) (ls) (.int y' :: .int x :: r1) (h) := by
  intro H locs cells slots tys ws rst LS lv b1 b2 hK hP hD hS hR hE hv hl hL
  obtain ⟨hx, hb, hr, hml, hown, hlocks, hname, hexc⟩ := X
  obtain ⟨_, _, rfl, rfl, _, _, rfl, rfl, hv⟩ := hv
  exact lv_ixor hx hb hd (K H locs cells slots tys ws _ LS lv b1 b2 hK hP hD hS hR hE ⟨_, _, rfl, rfl, hv⟩ hl hL)

theorem zs_ishl (X : zFr p s m meth c y cc mL ret hh) {x y' : Int32} (hd : decode cc pc = .ok (.ishl, 1)) (K : zGo p l e R s m args below meth c D adK b z0 mL ws0 mc ms r h' (pc + 1) (ls) (.int (x <<< (y' &&& 31)) :: r1) (h)) : zGo p l e R s m args below meth c D adK b z0 mL ws0 mc ms r h' (pc) (ls) (.int y' :: .int x :: r1) (h) := by
  intro H locs cells slots tys ws rst LS lv b1 b2 hK hP hD hS hR hE hv hl hL
  obtain ⟨hx, hb, hr, hml, hown, hlocks, hname, hexc⟩ := X
  obtain ⟨_, _, rfl, rfl, _, _, rfl, rfl, hv⟩ := hv
  exact lv_ishl hx hb hd (K H locs cells slots tys ws _ LS lv b1 b2 hK hP hD hS hR hE ⟨_, _, rfl, rfl, hv⟩ hl hL)

theorem zs_ishr (X : zFr p s m meth c y cc mL ret hh) {x y' : Int32} (hd : decode cc pc = .ok (.ishr, 1)) (K : zGo p l e R s m args below meth c D adK b z0 mL ws0 mc ms r h' (pc + 1) (ls) (.int (x >>> (y' &&& 31)) :: r1) (h)) : zGo p l e R s m args below meth c D adK b z0 mL ws0 mc ms r h' (pc) (ls) (.int y' :: .int x :: r1) (h) := by
  intro H locs cells slots tys ws rst LS lv b1 b2 hK hP hD hS hR hE hv hl hL
  obtain ⟨hx, hb, hr, hml, hown, hlocks, hname, hexc⟩ := X
  obtain ⟨_, _, rfl, rfl, _, _, rfl, rfl, hv⟩ := hv
  exact lv_ishr hx hb hd (K H locs cells slots tys ws _ LS lv b1 b2 hK hP hD hS hR hE ⟨_, _, rfl, rfl, hv⟩ hl hL)

theorem zs_iushr (X : zFr p s m meth c y cc mL ret hh) {x y' : Int32} (hd : decode cc pc = .ok (.iushr, 1)) (K : zGo p l e R s m args below meth c D adK b z0 mL ws0 mc ms r h' (pc + 1) (ls) (.int ((x.toUInt32 >>> (y'.toUInt32 &&& Int32.toUInt32 31)).toInt32) :: r1) (h)) : zGo p l e R s m args below meth c D adK b z0 mL ws0 mc ms r h' (pc) (ls) (.int y' :: .int x :: r1) (h) := by
  intro H locs cells slots tys ws rst LS lv b1 b2 hK hP hD hS hR hE hv hl hL
  obtain ⟨hx, hb, hr, hml, hown, hlocks, hname, hexc⟩ := X
  obtain ⟨_, _, rfl, rfl, _, _, rfl, rfl, hv⟩ := hv
  exact lv_iushr hx hb hd rfl (K H locs cells slots tys ws _ LS lv b1 b2 hK hP hD hS hR hE ⟨_, _, rfl, rfl, hv⟩ hl hL)

theorem zs_idiv (X : zFr p s m meth c y cc mL ret hh) {x y' : Int32} (hd : decode cc pc = .ok (.idiv, 1)) (hne : ¬ y' = 0) (K : zGo p l e R s m args below meth c D adK b z0 mL ws0 mc ms r h' (pc + 1) (ls) (.int (x / y') :: r1) (h)) : zGo p l e R s m args below meth c D adK b z0 mL ws0 mc ms r h' (pc) (ls) (.int y' :: .int x :: r1) (h) := by
  intro H locs cells slots tys ws rst LS lv b1 b2 hK hP hD hS hR hE hv hl hL
  obtain ⟨hx, hb, hr, hml, hown, hlocks, hname, hexc⟩ := X
  obtain ⟨_, _, rfl, rfl, _, _, rfl, rfl, hv⟩ := hv
  exact lv_idiv hx hb hd hne (K H locs cells slots tys ws _ LS lv b1 b2 hK hP hD hS hR hE ⟨_, _, rfl, rfl, hv⟩ hl hL)

theorem zs_irem (X : zFr p s m meth c y cc mL ret hh) {x y' : Int32} (hd : decode cc pc = .ok (.irem, 1)) (hne : ¬ y' = 0) (K : zGo p l e R s m args below meth c D adK b z0 mL ws0 mc ms r h' (pc + 1) (ls) (.int (x - x / y' * y') :: r1) (h)) : zGo p l e R s m args below meth c D adK b z0 mL ws0 mc ms r h' (pc) (ls) (.int y' :: .int x :: r1) (h) := by
  intro H locs cells slots tys ws rst LS lv b1 b2 hK hP hD hS hR hE hv hl hL
  obtain ⟨hx, hb, hr, hml, hown, hlocks, hname, hexc⟩ := X
  obtain ⟨_, _, rfl, rfl, _, _, rfl, rfl, hv⟩ := hv
  exact lv_irem hx hb hd hne (K H locs cells slots tys ws _ LS lv b1 b2 hK hP hD hS hR hE ⟨_, _, rfl, rfl, hv⟩ hl hL)

theorem zs_ladd (X : zFr p s m meth c y cc mL ret hh) {x y' : Int64} (hd : decode cc pc = .ok (.ladd, 1)) (K : zGo p l e R s m args below meth c D adK b z0 mL ws0 mc ms r h' (pc + 1) (ls) (.long (x + y') :: r1) (h)) : zGo p l e R s m args below meth c D adK b z0 mL ws0 mc ms r h' (pc) (ls) (.long y' :: .long x :: r1) (h) := by
  intro H locs cells slots tys ws rst LS lv b1 b2 hK hP hD hS hR hE hv hl hL
  obtain ⟨hx, hb, hr, hml, hown, hlocks, hname, hexc⟩ := X
  obtain ⟨_, _, rfl, rfl, _, _, rfl, rfl, hv⟩ := hv
  exact lv_ladd hx hb hd (K H locs cells slots tys ws _ LS lv b1 b2 hK hP hD hS hR hE ⟨_, _, rfl, rfl, hv⟩ hl hL)

theorem zs_lsub (X : zFr p s m meth c y cc mL ret hh) {x y' : Int64} (hd : decode cc pc = .ok (.lsub, 1)) (K : zGo p l e R s m args below meth c D adK b z0 mL ws0 mc ms r h' (pc + 1) (ls) (.long (x - y') :: r1) (h)) : zGo p l e R s m args below meth c D adK b z0 mL ws0 mc ms r h' (pc) (ls) (.long y' :: .long x :: r1) (h) := by
  intro H locs cells slots tys ws rst LS lv b1 b2 hK hP hD hS hR hE hv hl hL
  obtain ⟨hx, hb, hr, hml, hown, hlocks, hname, hexc⟩ := X
  obtain ⟨_, _, rfl, rfl, _, _, rfl, rfl, hv⟩ := hv
  exact lv_lsub hx hb hd (K H locs cells slots tys ws _ LS lv b1 b2 hK hP hD hS hR hE ⟨_, _, rfl, rfl, hv⟩ hl hL)

theorem zs_lmul (X : zFr p s m meth c y cc mL ret hh) {x y' : Int64} (hd : decode cc pc = .ok (.lmul, 1)) (K : zGo p l e R s m args below meth c D adK b z0 mL ws0 mc ms r h' (pc + 1) (ls) (.long (x * y') :: r1) (h)) : zGo p l e R s m args below meth c D adK b z0 mL ws0 mc ms r h' (pc) (ls) (.long y' :: .long x :: r1) (h) := by
  intro H locs cells slots tys ws rst LS lv b1 b2 hK hP hD hS hR hE hv hl hL
  obtain ⟨hx, hb, hr, hml, hown, hlocks, hname, hexc⟩ := X
  obtain ⟨_, _, rfl, rfl, _, _, rfl, rfl, hv⟩ := hv
  exact lv_lmul hx hb hd (K H locs cells slots tys ws _ LS lv b1 b2 hK hP hD hS hR hE ⟨_, _, rfl, rfl, hv⟩ hl hL)

theorem zs_land (X : zFr p s m meth c y cc mL ret hh) {x y' : Int64} (hd : decode cc pc = .ok (.land, 1)) (K : zGo p l e R s m args below meth c D adK b z0 mL ws0 mc ms r h' (pc + 1) (ls) (.long (x &&& y') :: r1) (h)) : zGo p l e R s m args below meth c D adK b z0 mL ws0 mc ms r h' (pc) (ls) (.long y' :: .long x :: r1) (h) := by
  intro H locs cells slots tys ws rst LS lv b1 b2 hK hP hD hS hR hE hv hl hL
  obtain ⟨hx, hb, hr, hml, hown, hlocks, hname, hexc⟩ := X
  obtain ⟨_, _, rfl, rfl, _, _, rfl, rfl, hv⟩ := hv
  exact lv_land hx hb hd (K H locs cells slots tys ws _ LS lv b1 b2 hK hP hD hS hR hE ⟨_, _, rfl, rfl, hv⟩ hl hL)

theorem zs_lor (X : zFr p s m meth c y cc mL ret hh) {x y' : Int64} (hd : decode cc pc = .ok (.lor, 1)) (K : zGo p l e R s m args below meth c D adK b z0 mL ws0 mc ms r h' (pc + 1) (ls) (.long (x ||| y') :: r1) (h)) : zGo p l e R s m args below meth c D adK b z0 mL ws0 mc ms r h' (pc) (ls) (.long y' :: .long x :: r1) (h) := by
  intro H locs cells slots tys ws rst LS lv b1 b2 hK hP hD hS hR hE hv hl hL
  obtain ⟨hx, hb, hr, hml, hown, hlocks, hname, hexc⟩ := X
  obtain ⟨_, _, rfl, rfl, _, _, rfl, rfl, hv⟩ := hv
  exact lv_lor hx hb hd (K H locs cells slots tys ws _ LS lv b1 b2 hK hP hD hS hR hE ⟨_, _, rfl, rfl, hv⟩ hl hL)

theorem zs_ldiv (X : zFr p s m meth c y cc mL ret hh) {x y' : Int64} (hd : decode cc pc = .ok (.ldiv, 1)) (hne : ¬ y' = 0) (K : zGo p l e R s m args below meth c D adK b z0 mL ws0 mc ms r h' (pc + 1) (ls) (.long (x / y') :: r1) (h)) : zGo p l e R s m args below meth c D adK b z0 mL ws0 mc ms r h' (pc) (ls) (.long y' :: .long x :: r1) (h) := by
  intro H locs cells slots tys ws rst LS lv b1 b2 hK hP hD hS hR hE hv hl hL
  obtain ⟨hx, hb, hr, hml, hown, hlocks, hname, hexc⟩ := X
  obtain ⟨_, _, rfl, rfl, _, _, rfl, rfl, hv⟩ := hv
  exact lv_ldiv hx hb hd hne (K H locs cells slots tys ws _ LS lv b1 b2 hK hP hD hS hR hE ⟨_, _, rfl, rfl, hv⟩ hl hL)

theorem zs_lcmp (X : zFr p s m meth c y cc mL ret hh) {x y' : Int64} (hd : decode cc pc = .ok (.lcmp, 1)) (K : zGo p l e R s m args below meth c D adK b z0 mL ws0 mc ms r h' (pc + 1) (ls) (.int (lg_cmp x y') :: r1) (h)) : zGo p l e R s m args below meth c D adK b z0 mL ws0 mc ms r h' (pc) (ls) (.long y' :: .long x :: r1) (h) := by
  intro H locs cells slots tys ws rst LS lv b1 b2 hK hP hD hS hR hE hv hl hL
  obtain ⟨hx, hb, hr, hml, hown, hlocks, hname, hexc⟩ := X
  obtain ⟨_, _, rfl, rfl, _, _, rfl, rfl, hv⟩ := hv
  exact W.lcmp hx hb hd (K H locs cells slots tys ws _ LS lv b1 b2 hK hP hD hS hR hE ⟨_, _, rfl, rfl, hv⟩ hl hL)

theorem zs_i2l (X : zFr p s m meth c y cc mL ret hh) {x : Int32} (hd : decode cc pc = .ok (.i2l, 1)) (K : zGo p l e R s m args below meth c D adK b z0 mL ws0 mc ms r h' (pc + 1) (ls) (.long (x.toInt64) :: r1) (h)) : zGo p l e R s m args below meth c D adK b z0 mL ws0 mc ms r h' (pc) (ls) (.int x :: r1) (h) := by
  intro H locs cells slots tys ws rst LS lv b1 b2 hK hP hD hS hR hE hv hl hL
  obtain ⟨hx, hb, hr, hml, hown, hlocks, hname, hexc⟩ := X
  obtain ⟨_, _, rfl, rfl, hv⟩ := hv
  exact lv_i2l hx hb hd rfl (K H locs cells slots tys ws _ LS lv b1 b2 hK hP hD hS hR hE ⟨_, _, rfl, rfl, hv⟩ hl hL)

theorem zs_l2i (X : zFr p s m meth c y cc mL ret hh) {x : Int64} (hd : decode cc pc = .ok (.l2i, 1)) (K : zGo p l e R s m args below meth c D adK b z0 mL ws0 mc ms r h' (pc + 1) (ls) (.int (x.toInt32) :: r1) (h)) : zGo p l e R s m args below meth c D adK b z0 mL ws0 mc ms r h' (pc) (ls) (.long x :: r1) (h) := by
  intro H locs cells slots tys ws rst LS lv b1 b2 hK hP hD hS hR hE hv hl hL
  obtain ⟨hx, hb, hr, hml, hown, hlocks, hname, hexc⟩ := X
  obtain ⟨_, _, rfl, rfl, hv⟩ := hv
  exact lv_l2i hx hb hd rfl (K H locs cells slots tys ws _ LS lv b1 b2 hK hP hD hS hR hE ⟨_, _, rfl, rfl, hv⟩ hl hL)

theorem zs_i2b (X : zFr p s m meth c y cc mL ret hh) {x : Int32} (hd : decode cc pc = .ok (.i2b, 1)) (K : zGo p l e R s m args below meth c D adK b z0 mL ws0 mc ms r h' (pc + 1) (ls) (.int (x.toInt8.toInt32) :: r1) (h)) : zGo p l e R s m args below meth c D adK b z0 mL ws0 mc ms r h' (pc) (ls) (.int x :: r1) (h) := by
  intro H locs cells slots tys ws rst LS lv b1 b2 hK hP hD hS hR hE hv hl hL
  obtain ⟨hx, hb, hr, hml, hown, hlocks, hname, hexc⟩ := X
  obtain ⟨_, _, rfl, rfl, hv⟩ := hv
  exact lv_i2b hx hb hd rfl (K H locs cells slots tys ws _ LS lv b1 b2 hK hP hD hS hR hE ⟨_, _, rfl, rfl, hv⟩ hl hL)

theorem zs_dup (X : zFr p s m meth c y cc mL ret hh) {v : Value} (hd : decode cc pc = .ok (.dup, 1)) (h1 : zc1 v = true) (K : zGo p l e R s m args below meth c D adK b z0 mL ws0 mc ms r h' (pc + 1) (ls) (v :: v :: r1) (h)) : zGo p l e R s m args below meth c D adK b z0 mL ws0 mc ms r h' (pc) (ls) (v :: r1) (h) := by
  intro H locs cells slots tys ws rst LS lv b1 b2 hK hP hD hS hR hE hv hl hL
  obtain ⟨hx, hb, hr, hml, hown, hlocks, hname, hexc⟩ := X
  obtain ⟨rv, _, rfl, h2, hv⟩ := hv
  exact lv_dup hx hb hd (h2.cat1 h1) (K H locs cells slots tys ws _ LS lv b1 b2 hK hP hD hS hR hE ⟨_, _, rfl, h2, _, _, rfl, h2, hv⟩ hl hL)

theorem zs_dup2 (X : zFr p s m meth c y cc mL ret hh) {v u : Value} (hd : decode cc pc = .ok (.dup2, 1)) (h1 : zc1 v = true) (h3 : zc1 u = true) (K : zGo p l e R s m args below meth c D adK b z0 mL ws0 mc ms r h' (pc + 1) (ls) (v :: u :: v :: u :: r1) (h)) : zGo p l e R s m args below meth c D adK b z0 mL ws0 mc ms r h' (pc) (ls) (v :: u :: r1) (h) := by
  intro H locs cells slots tys ws rst LS lv b1 b2 hK hP hD hS hR hE hv hl hL
  obtain ⟨hx, hb, hr, hml, hown, hlocks, hname, hexc⟩ := X
  obtain ⟨rv, _, rfl, h2, ru, _, rfl, h4, hv⟩ := hv
  exact lv_dup2_11 hx hb hd (h2.cat1 h1) (h4.cat1 h3) (K H locs cells slots tys ws _ LS lv b1 b2 hK hP hD hS hR hE ⟨_, _, rfl, h2, _, _, rfl, h4, _, _, rfl, h2, _, _, rfl, h4, hv⟩ hl hL)

theorem zs_pop (X : zFr p s m meth c y cc mL ret hh) {v : Value} (hd : decode cc pc = .ok (.pop, 1)) (h1 : zc1 v = true) (K : zGo p l e R s m args below meth c D adK b z0 mL ws0 mc ms r h' (pc + 1) (ls) (r1) (h)) : zGo p l e R s m args below meth c D adK b z0 mL ws0 mc ms r h' (pc) (ls) (v :: r1) (h) := by
  intro H locs cells slots tys ws rst LS lv b1 b2 hK hP hD hS hR hE hv hl hL
  obtain ⟨hx, hb, hr, hml, hown, hlocks, hname, hexc⟩ := X
  obtain ⟨rv, _, rfl, h2, hv⟩ := hv
  exact lv_pop hx hb hd (h2.cat1 h1) (K H locs cells slots tys ws _ LS lv b1 b2 hK hP hD hS hR hE hv hl hL)

theorem zs_goto (X : zFr p s m meth c y cc mL ret hh) {off : Int} {t : Nat} (hd : decode cc pc = .ok (.goto off, 3)) (ht : (pc : Int) + off = (t : Int)) (K : zGo p l e R s m args below meth c D adK b z0 mL ws0 mc ms r h' (t) (ls) (st) (h)) : zGo p l e R s m args below meth c D adK b z0 mL ws0 mc ms r h' (pc) (ls) (st) (h) := by
  intro H locs cells slots tys ws rst LS lv b1 b2 hK hP hD hS hR hE hv hl hL
  obtain ⟨hx, hb, hr, hml, hown, hlocks, hname, hexc⟩ := X
  exact lv_goto hx hb hd ht (K H locs cells slots tys ws _ LS lv b1 b2 hK hP hD hS hR hE hv hl hL)

theorem zs_if1 (X : zFr p s m meth c y cc mL ret hh) {k : ClassFile.Cond} {off : Int} {t : Nat} {x : Int32} (hd : decode cc pc = .ok (.ifCond k off, 3)) (ht : (pc : Int) + off = (t : Int)) (K1 : zc0 k x → zGo p l e R s m args below meth c D adK b z0 mL ws0 mc ms r h' (t) (ls) (r1) (h)) (K2 : ¬ zc0 k x → zGo p l e R s m args below meth c D adK b z0 mL ws0 mc ms r h' (pc + 3) (ls) (r1) (h)) : zGo p l e R s m args below meth c D adK b z0 mL ws0 mc ms r h' (pc) (ls) (.int x :: r1) (h) := by
  intro H locs cells slots tys ws rst LS lv b1 b2 hK hP hD hS hR hE hv hl hL
  obtain ⟨hx, hb, hr, hml, hown, hlocks, hname, hexc⟩ := X
  obtain ⟨_, _, rfl, rfl, hv⟩ := hv
  cases k with
  | eq => exact lv_if_eq hx hb hd ht (fun w => K1 w H locs cells slots tys ws _ LS lv b1 b2 hK hP hD hS hR hE hv hl hL) (fun w => K2 w H locs cells slots tys ws _ LS lv b1 b2 hK hP hD hS hR hE hv hl hL)
  | ne => exact lv_if_ne hx hb hd ht (fun w => K1 w H locs cells slots tys ws _ LS lv b1 b2 hK hP hD hS hR hE hv hl hL) (fun w => K2 (fun z => z w) H locs cells slots tys ws _ LS lv b1 b2 hK hP hD hS hR hE hv hl hL)
  | lt => exact lv_if_lt hx hb hd ht (fun w => K1 w H locs cells slots tys ws _ LS lv b1 b2 hK hP hD hS hR hE hv hl hL) (fun w => K2 w H locs cells slots tys ws _ LS lv b1 b2 hK hP hD hS hR hE hv hl hL)
  | ge => exact lv_if_ge hx hb hd ht (fun w => K1 w H locs cells slots tys ws _ LS lv b1 b2 hK hP hD hS hR hE hv hl hL) (fun w => K2 w H locs cells slots tys ws _ LS lv b1 b2 hK hP hD hS hR hE hv hl hL)
  | gt => exact lv_if_gt hx hb hd ht (fun w => K1 w H locs cells slots tys ws _ LS lv b1 b2 hK hP hD hS hR hE hv hl hL) (fun w => K2 w H locs cells slots tys ws _ LS lv b1 b2 hK hP hD hS hR hE hv hl hL)
  | le => exact lv_if_le hx hb hd ht (fun w => K1 w H locs cells slots tys ws _ LS lv b1 b2 hK hP hD hS hR hE hv hl hL) (fun w => K2 w H locs cells slots tys ws _ LS lv b1 b2 hK hP hD hS hR hE hv hl hL)

theorem zs_if2 (X : zFr p s m meth c y cc mL ret hh) {k : ClassFile.Cond} {off : Int} {t : Nat} {x y' : Int32} (hd : decode cc pc = .ok (.if_icmp k off, 3)) (ht : (pc : Int) + off = (t : Int)) (K1 : zcc k x y' → zGo p l e R s m args below meth c D adK b z0 mL ws0 mc ms r h' (t) (ls) (r1) (h)) (K2 : ¬ zcc k x y' → zGo p l e R s m args below meth c D adK b z0 mL ws0 mc ms r h' (pc + 3) (ls) (r1) (h)) : zGo p l e R s m args below meth c D adK b z0 mL ws0 mc ms r h' (pc) (ls) (.int y' :: .int x :: r1) (h) := by
  intro H locs cells slots tys ws rst LS lv b1 b2 hK hP hD hS hR hE hv hl hL
  obtain ⟨hx, hb, hr, hml, hown, hlocks, hname, hexc⟩ := X
  obtain ⟨_, _, rfl, rfl, _, _, rfl, rfl, hv⟩ := hv
  cases k with
  | eq => exact lv_icmp_eq hx hb hd ht (fun w => K1 w H locs cells slots tys ws _ LS lv b1 b2 hK hP hD hS hR hE hv hl hL) (fun w => K2 w H locs cells slots tys ws _ LS lv b1 b2 hK hP hD hS hR hE hv hl hL)
  | ne => exact lv_icmp_ne hx hb hd ht (fun w => K1 w H locs cells slots tys ws _ LS lv b1 b2 hK hP hD hS hR hE hv hl hL) (fun w => K2 (fun z => z w) H locs cells slots tys ws _ LS lv b1 b2 hK hP hD hS hR hE hv hl hL)
  | lt => exact lv_icmp_lt hx hb hd ht (fun w => K1 w H locs cells slots tys ws _ LS lv b1 b2 hK hP hD hS hR hE hv hl hL) (fun w => K2 w H locs cells slots tys ws _ LS lv b1 b2 hK hP hD hS hR hE hv hl hL)
  | ge => exact lv_icmp_ge hx hb hd ht (fun w => K1 w H locs cells slots tys ws _ LS lv b1 b2 hK hP hD hS hR hE hv hl hL) (fun w => K2 w H locs cells slots tys ws _ LS lv b1 b2 hK hP hD hS hR hE hv hl hL)
  | gt => exact lv_icmp_gt hx hb hd ht (fun w => K1 w H locs cells slots tys ws _ LS lv b1 b2 hK hP hD hS hR hE hv hl hL) (fun w => K2 w H locs cells slots tys ws _ LS lv b1 b2 hK hP hD hS hR hE hv hl hL)
  | le => exact lv_icmp_le hx hb hd ht (fun w => K1 w H locs cells slots tys ws _ LS lv b1 b2 hK hP hD hS hR hE hv hl hL) (fun w => K2 w H locs cells slots tys ws _ LS lv b1 b2 hK hP hD hS hR hE hv hl hL)

theorem zs_ifnullN (X : zFr p s m meth c y cc mL ret hh) {off : Int} {t : Nat} (hd : decode cc pc = .ok (.ifnull off, 3)) (ht : (pc : Int) + off = (t : Int)) (K : zGo p l e R s m args below meth c D adK b z0 mL ws0 mc ms r h' (t) (ls) (r1) (h)) : zGo p l e R s m args below meth c D adK b z0 mL ws0 mc ms r h' (pc) (ls) (.null :: r1) (h) := by
  intro H locs cells slots tys ws rst LS lv b1 b2 hK hP hD hS hR hE hv hl hL
  obtain ⟨hx, hb, hr, hml, hown, hlocks, hname, hexc⟩ := X
  obtain ⟨_, _, rfl, rfl, hv⟩ := hv
  exact lv_ifnullN hx hb hd ht (K H locs cells slots tys ws _ LS lv b1 b2 hK hP hD hS hR hE hv hl hL)

theorem zs_ifnullR (X : zFr p s m meth c y cc mL ret hh) {off : Int} {a : Nat} (hd : decode cc pc = .ok (.ifnull off, 3)) (K : zGo p l e R s m args below meth c D adK b z0 mL ws0 mc ms r h' (pc + 3) (ls) (r1) (h)) : zGo p l e R s m args below meth c D adK b z0 mL ws0 mc ms r h' (pc) (ls) (.ref a :: r1) (h) := by
  intro H locs cells slots tys ws rst LS lv b1 b2 hK hP hD hS hR hE hv hl hL
  obtain ⟨hx, hb, hr, hml, hown, hlocks, hname, hexc⟩ := X
  obtain ⟨_, _, rfl, ⟨_, _, rfl⟩, hv⟩ := hv
  exact lv_ifnull hx hb hd (K H locs cells slots tys ws _ LS lv b1 b2 hK hP hD hS hR hE hv hl hL)

theorem zs_ifnonN (X : zFr p s m meth c y cc mL ret hh) {off : Int} (hd : decode cc pc = .ok (.ifnonnull off, 3)) (K : zGo p l e R s m args below meth c D adK b z0 mL ws0 mc ms r h' (pc + 3) (ls) (r1) (h)) : zGo p l e R s m args below meth c D adK b z0 mL ws0 mc ms r h' (pc) (ls) (.null :: r1) (h) := by
  intro H locs cells slots tys ws rst LS lv b1 b2 hK hP hD hS hR hE hv hl hL
  obtain ⟨hx, hb, hr, hml, hown, hlocks, hname, hexc⟩ := X
  obtain ⟨_, _, rfl, rfl, hv⟩ := hv
  exact lv_ifnonnullN hx hb hd (K H locs cells slots tys ws _ LS lv b1 b2 hK hP hD hS hR hE hv hl hL)

theorem zs_ifnonR (X : zFr p s m meth c y cc mL ret hh) {off : Int} {t a : Nat} (hd : decode cc pc = .ok (.ifnonnull off, 3)) (ht : (pc : Int) + off = (t : Int)) (K : zGo p l e R s m args below meth c D adK b z0 mL ws0 mc ms r h' (t) (ls) (r1) (h)) : zGo p l e R s m args below meth c D adK b z0 mL ws0 mc ms r h' (pc) (ls) (.ref a :: r1) (h) := by
  intro H locs cells slots tys ws rst LS lv b1 b2 hK hP hD hS hR hE hv hl hL
  obtain ⟨hx, hb, hr, hml, hown, hlocks, hname, hexc⟩ := X
  obtain ⟨_, _, rfl, ⟨_, _, rfl⟩, hv⟩ := hv
  exact lv_ifnonnull hx hb hd ht (K H locs cells slots tys ws _ LS lv b1 b2 hK hP hD hS hR hE hv hl hL)

theorem zswchk_spec {pc : Nat} : ∀ {offs : List Int} {lo : Int} {l : List (Int32 × Nat)}, zswchk pc offs lo l = true → offs.length = l.length ∧ ∀ (k : Nat) (x : Int32) (t : Nat), l[k]? = some (x, t) → x.toInt = lo + (k : Int) ∧ ∃ o, offs[k]? = some o ∧ (pc : Int) + o = (t : Int)
  | [], _, [], _ => ⟨rfl, fun k x t h => by simp at h⟩
  | o :: os, lo, (x, t) :: l, h => by
    simp only [zswchk, Bool.and_eq_true, decide_eq_true_eq] at h
    obtain ⟨h1, h2⟩ := zswchk_spec h.2
    refine ⟨by rw [List.length_cons, List.length_cons, h1], fun k x' t' hk => ?_⟩
    cases k with
    | zero =>
      cases (Option.some.inj (show some (x, t) = some (x', t') from hk))
      exact ⟨by rw [h.1.1]; simp, o, rfl, h.1.2⟩
    | succ k =>
      obtain ⟨h3, o', h4, h5⟩ := h2 k x' t' hk
      exact ⟨by rw [h3]; omega, o', h4, h5⟩
  | [], _, _ :: _, h => by simp [zswchk] at h
  | _ :: _, _, [], h => by simp [zswchk] at h
theorem zs_swIn (X : zFr p s m meth c y cc mL ret hh) {df lo hi : Int} {offs : Array Int} {ln : Nat} {L : List (Int32 × Nat)} {x : Int32} {t : Nat} (hd : decode cc pc = .ok (.tableswitch df lo hi offs, ln)) (hs : zswchk pc offs.toList lo L = true) (hz : lo + (offs.size : Int) = hi + 1) (hm : (x, t) ∈ L) (K : zGo p l e R s m args below meth c D adK b z0 mL ws0 mc ms r h' (t) (ls) (r1) (h)) : zGo p l e R s m args below meth c D adK b z0 mL ws0 mc ms r h' (pc) (ls) (.int x :: r1) (h) := by
  intro H locs cells slots tys ws rst LS lv b1 b2 hK hP hD hS hR hE hv hl hL
  obtain ⟨hx, hb, hr, hml, hown, hlocks, hname, hexc⟩ := X
  obtain ⟨_, _, rfl, rfl, hv⟩ := hv
  obtain ⟨h1, h2⟩ := zswchk_spec hs
  obtain ⟨k, hk⟩ := List.getElem?_of_mem hm
  obtain ⟨h3, o, h4, h5⟩ := h2 k x t hk
  have h6 := (List.getElem?_eq_some_iff.mp h4).1
  rw [Array.length_toList] at h6
  refine lv_tableIn hx hb hd (by omega) (by omega) (off := o) ?_ h5 (K H locs cells slots tys ws _ LS lv b1 b2 hK hP hD hS hR hE hv hl hL)
  have : (x.toInt - lo).toNat = k := by omega
  rw [this, ← Array.getElem?_toList]
  exact h4

theorem zs_swOut (X : zFr p s m meth c y cc mL ret hh) {df lo hi : Int} {offs : Array Int} {ln : Nat} {L : List (Int32 × Nat)} {x : Int32} {t : Nat} (hd : decode cc pc = .ok (.tableswitch df lo hi offs, ln)) (hs : zswchk pc offs.toList lo L = true) (hz : lo + (offs.size : Int) = hi + 1) (ht : (pc : Int) + df = (t : Int)) (hm : ∀ q ∈ L, x ≠ q.1) (K : zGo p l e R s m args below meth c D adK b z0 mL ws0 mc ms r h' (t) (ls) (r1) (h)) : zGo p l e R s m args below meth c D adK b z0 mL ws0 mc ms r h' (pc) (ls) (.int x :: r1) (h) := by
  intro H locs cells slots tys ws rst LS lv b1 b2 hK hP hD hS hR hE hv hl hL
  obtain ⟨hx, hb, hr, hml, hown, hlocks, hname, hexc⟩ := X
  obtain ⟨_, _, rfl, rfl, hv⟩ := hv
  obtain ⟨h1, h2⟩ := zswchk_spec hs
  refine lv_tableOut hx hb hd ?_ ht (K H locs cells slots tys ws _ LS lv b1 b2 hK hP hD hS hR hE hv hl hL)
  by_cases h3 : x.toInt < lo
  · exact Or.inl h3
  · by_cases h4 : hi < x.toInt
    · exact Or.inr h4
    · rw [Array.length_toList] at h1
      have h5 : (x.toInt - lo).toNat < L.length := by omega
      obtain ⟨h6, -⟩ := h2 (x.toInt - lo).toNat L[(x.toInt - lo).toNat].1 L[(x.toInt - lo).toNat].2 (List.getElem?_eq_getElem h5)
      refine absurd ?_ (hm _ (List.getElem_mem h5))
      exact Int32.toInt_inj.mp (by rw [h6]; omega)

end ZSTEP
