/-! THE EVALUATOR IS SOUND -/
set_option maxRecDepth 100000 in
theorem znest_ok : lw_tbl.all (fun w => match w with
  | .methodLinkNest _ _ y _ => decide (y.cls ≠ "SandHouseLaw")
  | _ => true) = true := by decide +kernel
set_option maxRecDepth 100000 in
theorem zkc_ok : (List.range 339).all (fun j => match zat zmn j, zat zmi j with
  | some (y, _), some (_, _, _, _, _, kd) => Nat.beq kd 0 || decide (y.cls = "SandHouseLaw")
  | _, _ => true) = true := by decide +kernel
set_option maxRecDepth 100000 in
theorem zsw_nest {own : String} {i j a3 : Nat} {y : MethodName} {cc : ByteArray} {mL : Nat} {ret : Option FieldType} {hh : List (Nat × Nat × Nat × Nat)} {q : Nat × Nat × Nat × Nat} (hj : zat zmn j = some (y, cc, mL, ret, hh, q)) {na mL9 stc ci rk kd : Nat} (hji : zat zmi j = some (na, mL9, stc, ci, rk, kd)) (hlk : match (generalizing := false) a3 with | 0 => Jvm.Cond.methodLink own i y ∈ lw_tbl | _ => Jvm.Cond.methodLinkNest own i y "SandHouse" ∈ lw_tbl) (hk : kd ≠ 0) : a3 = 0 := by
  cases a3 with
  | zero => rfl
  | succ a3 =>
    exfalso
    have h1 := List.all_eq_true.mp znest_ok _ hlk
    have h2 := List.all_eq_true.mp zkc_ok j (List.mem_range.mpr (zmn_lt hj))
    rw [hj, hji] at h2
    simp only [Bool.or_eq_true, decide_eq_true_eq] at h2
    rcases h2 with h2 | h2
    · exact hk (zbeq h2)
    · exact (of_decide_eq_true h1) h2
set_option maxRecDepth 100000 in
theorem zlk_of {own : String} {i a2 a3 w : Nat} {y : MethodName} (h : zmlchk own i a2 a3 w y = true) : match (generalizing := false) a3 with | 0 => Jvm.Cond.methodLink own i y ∈ lw_tbl | _ => Jvm.Cond.methodLinkNest own i y "SandHouse" ∈ lw_tbl := by
  cases a3 with
  | zero => exact zwd_mem h
  | succ a3 => exact zwd_mem h
set_option maxRecDepth 100000 in
theorem zfl_of {own : String} {i a1 a2 a3 w : Nat} (h : zflchk own i a1 a2 a3 w = true) {s : State} (hT : zTW s) (args : Array Value) : ∃ (C : String) (T : u_T) (N : Nat), zat vwCl a1 = some (C, T, N) ∧ a2 < N ∧ (match (generalizing := false) a3 with | 0 => (Jvm.Cond.fieldLink own i (T a2).1 (T a2).2.1 (T a2).2.2.1).before args s | _ => (Jvm.Cond.fieldLinkNest own i (T a2).1 (T a2).2.1 (T a2).2.2.1 "SandHouse").before args s) = true := by
  unfold zflchk at h
  split at h
  · rename_i C T N hc
    rw [Bool.and_eq_true] at h
    refine ⟨C, T, N, hc, Nat.le_of_ble_eq_true h.1, ?_⟩
    cases a3 with
    | zero => exact hT.use h.2 rfl
    | succ a3 => exact hT.use h.2 rfl
  · cases h
set_option maxRecDepth 100000 in
theorem zlaw_no : lw_tbl.all (fun w => match w with
  | .methodLinkNest _ _ y _ => decide (y.desc ≠ "([I)Z")
  | .methodLink _ _ y => decide (y.desc ≠ "([I)Z")
  | _ => true) = true := by decide +kernel
set_option maxRecDepth 100000 in
theorem zmn0_no {own : String} {i a3 : Nat} {y : MethodName} {r : ByteArray × Nat × Option FieldType × List (Nat × Nat × Nat × Nat) × Nat × Nat × Nat × Nat} (hlk : match (generalizing := false) a3 with | 0 => Jvm.Cond.methodLink own i y ∈ lw_tbl | _ => Jvm.Cond.methodLinkNest own i y "SandHouse" ∈ lw_tbl) (hj : zat zmn 0 = some (y, r)) : False := by
  have h0 : y.desc = "([I)Z" := by
    have := congrArg (fun o => o.map (fun q : MethodName × ByteArray × Nat × Option FieldType × List (Nat × Nat × Nat × Nat) × Nat × Nat × Nat × Nat => q.1.desc)) hj
    exact (Option.some.inj this).symm
  cases a3 with
  | zero => exact (of_decide_eq_true (List.all_eq_true.mp zlaw_no _ hlk)) h0
  | succ a3 => exact (of_decide_eq_true (List.all_eq_true.mp zlaw_no _ hlk)) h0
section ZFIN
variable {p : Program} {l : Launch} {e9 : Env} {R : Room} {s : State} {m : MethodId} {args : Array Value} {below : List Frame} {meth : Method} {c : Code}
variable {D : va_G} {adK : Nat → Nat} {b z0 : Nat} {E : zE} {y : MethodName} {cc : ByteArray} {mL : Nat} {ret : Option FieldType} {hh : List (Nat × Nat × Nat × Nat)} {q : Nat × Nat × Nat × Nat} {ws0 : va_W} {mc ms : Nat} {r : Option Value ⊕ Nat} {h' : zH}
variable {pc : Nat} {ls : zLs} {st : List Value} {h : zH} {ih : zF} {d mi : Nat}
set_option maxHeartbeats 4000000 in
set_option maxRecDepth 100000 in
theorem zins_sound (htr : l.stackTraces = false) (IH : zWk l D adK b z0 E ih) (hM : zMono ih) (hmi : zat zmn mi = some (y, cc, mL, ret, hh, q)) (X : zFr p s m meth c y cc mL ret hh) (hEW : zEW adK b z0 E s s.heap) (hfr : d + 10 ≤ R.frames) (hlo : 64 * d + 300 ≤ R.locals) (hmc : mc ≤ R.cells) (hms : ms ≤ R.slots)
    (hrk : ∀ na mL' stc ci rk kd, zat zmi mi = some (na, mL', stc, ci, rk, kd) → (rk = 0 → ret = none) ∧ (rk = 1 → ret = some .int) ∧ (rk = 2 → ret = some .boolean))
    {ln a1 a2 a3 w : Nat} {z : Int32} {ins : Instr} (hd : decode cc pc = .ok (ins, ln)) (hln : Nat.beq ln (zlen ln ins) = true) (hc : zich2 y.cls y.name cc mL pc a1 a2 a3 z w ins = true) (e : zins E ih d mi pc ls st h ln a1 a2 a3 z ins = some (r, h')) :
    zGo p l e9 R s m args below meth c D adK b z0 mL ws0 mc ms r h' pc ls st h := by
  have I : ∀ {pc' ls' st' h''}, ih d mi pc' ls' st' h'' = some (r, h') → zGo p l e9 R s m args below meth c D adK b z0 mL ws0 mc ms r h' pc' ls' st' h'' := fun e8 => IH _ _ _ _ _ _ _ _ e8 p e9 R s m args below meth c y cc mL ret hh q ws0 mc ms hmi X hEW hfr hlo hmc hms
  have M : ∀ {pc' ls' st' h''}, ih d mi pc' ls' st' h'' = some (r, h') → zleH h'' h' := fun e8 => hM _ _ _ _ _ _ _ _ e8
  have hT := hEW.1
  have hz0 : z0 ≤ s.heap.size := hEW.2.2.2.2.2.2.2.2
  have hfr1 : 1 ≤ R.frames := by omega
  have hfr10 : 10 ≤ R.frames := by omega
  have hlo3 : 300 ≤ R.locals := by omega
  cases ins with
  | aconst_null =>
    have hl : ln = 1 := zbeq hln
    subst hl
    exact zs_null X hd (I e)
  | iconst n =>
    have hl : ln = 1 := zbeq hln
    subst hl
    exact zs_iconst X hd (of_decide_eq_true (show decide (Int32.ofInt n = z) = true from hc)) (I e)
  | bipush n =>
    have hl : ln = 2 := zbeq hln
    subst hl
    exact zs_bipush X hd (of_decide_eq_true (show decide ((Int8.ofInt n).toInt32 = z) = true from hc)) (I e)
  | sipush n =>
    have hl : ln = 3 := zbeq hln
    subst hl
    exact zs_sipush X hd (of_decide_eq_true (show decide ((Int16.ofInt n).toInt32 = z) = true from hc)) (I e)
  | lconst n =>
    have hl : ln = 1 := zbeq hln
    subst hl
    exact zs_lconst X hd (of_decide_eq_true (show decide (Int64.ofNat (n : Nat) = z.toInt64) = true from hc)) (I e)
  | ldc2_w n =>
    have hl : ln = 3 := zbeq hln
    subst hl
    exact zs_ldc2 X hd (hT.use hc rfl) (I e)
  | ldc n =>
    have hl : ln = 2 := zbeq hln
    subst hl
    cases a1 with
    | zero => exact zs_ldc X hd (hT.use hc rfl) (I e)
    | succ a1 =>
      cases a1 with
      | zero =>
        have hc2 : (match (generalizing := false) zat zsref a2 with
          | some (o, k, _) => decide (o = y.cls) && Nat.beq k n
          | none => false) = true := hc
        split at hc2
        · rename_i o k tx hs
          rw [Bool.and_eq_true] at hc2
          have h1 := of_decide_eq_true hc2.1
          have h2 := zbeq hc2.2
          subst h2
          have h3 := hEW.2.1 a2 o _ tx hs
          rw [h1] at h3
          exact zs_ldcS X hd h3 (I e)
        · cases hc2
      | succ a1 => cases (show (none : Option zR) = some (r, h') from e)
  | ldc_w n =>
    have hl : ln = 3 := zbeq hln
    subst hl
    cases a1 with
    | zero => exact zs_ldcw X hd (hT.use hc rfl) (I e)
    | succ a1 => cases (show (none : Option zR) = some (r, h') from e)
  | iload i =>
    have hl : ln = 2 := zbeq hln
    subst hl
    dsimp only [zins] at e
    obtain ⟨x, h1, e⟩ := zldI_inv e
    exact zs_iload X hd h1 (I e)
  | iload_n i =>
    have hl : ln = 1 := zbeq hln
    subst hl
    dsimp only [zins] at e
    obtain ⟨x, h1, e⟩ := zldI_inv e
    exact zs_iload_n X hd h1 (I e)
  | lload i =>
    have hl : ln = 2 := zbeq hln
    subst hl
    dsimp only [zins] at e
    obtain ⟨x, h1, e⟩ := zldJ_inv e
    exact zs_lload X hd h1 (I e)
  | lload_n i =>
    have hl : ln = 1 := zbeq hln
    subst hl
    dsimp only [zins] at e
    obtain ⟨x, h1, e⟩ := zldJ_inv e
    exact zs_lload_n X hd h1 (I e)
  | aload i =>
    have hl : ln = 2 := zbeq hln
    subst hl
    dsimp only [zins] at e
    obtain ⟨v, h1, h2, e⟩ := zldA_inv e
    exact zs_aload X hd h1 h2 (I e)
  | aload_n i =>
    have hl : ln = 1 := zbeq hln
    subst hl
    dsimp only [zins] at e
    obtain ⟨v, h1, h2, e⟩ := zldA_inv e
    exact zs_aload_n X hd h1 h2 (I e)
  | istore i =>
    have hl : ln = 2 := zbeq hln
    subst hl
    dsimp only [zins] at e
    obtain ⟨x, r1, rfl, e⟩ := zstI_inv e
    exact zs_istore X hd (Nat.le_of_ble_eq_true hc) (I e)
  | istore_n i =>
    have hl : ln = 1 := zbeq hln
    subst hl
    dsimp only [zins] at e
    obtain ⟨x, r1, rfl, e⟩ := zstI_inv e
    exact zs_istore_n X hd (Nat.le_of_ble_eq_true hc) (I e)
  | lstore i =>
    have hl : ln = 2 := zbeq hln
    subst hl
    dsimp only [zins] at e
    obtain ⟨x, r1, rfl, e⟩ := zstJ_inv e
    exact zs_lstore X hd (Nat.le_of_ble_eq_true hc) (I e)
  | lstore_n i =>
    have hl : ln = 1 := zbeq hln
    subst hl
    dsimp only [zins] at e
    obtain ⟨x, r1, rfl, e⟩ := zstJ_inv e
    exact zs_lstore_n X hd (Nat.le_of_ble_eq_true hc) (I e)
  | astore i =>
    have hl : ln = 2 := zbeq hln
    subst hl
    dsimp only [zins] at e
    obtain ⟨v, r1, rfl, h1, e⟩ := zstA_inv e
    exact zs_astore X hd h1 (Nat.le_of_ble_eq_true hc) (I e)
  | astore_n i =>
    have hl : ln = 1 := zbeq hln
    subst hl
    dsimp only [zins] at e
    obtain ⟨v, r1, rfl, h1, e⟩ := zstA_inv e
    exact zs_astore_n X hd h1 (Nat.le_of_ble_eq_true hc) (I e)
  | iinc i n =>
    have hl : ln = 3 := zbeq hln
    subst hl
    dsimp only [zins] at e
    obtain ⟨x, h1, e⟩ := zinc_inv e
    have hc2 : (decide (Int32.ofInt n = z) && Nat.blt i mL) = true := hc
    rw [Bool.and_eq_true] at hc2
    exact zs_iinc X hd (of_decide_eq_true hc2.1) h1 (Nat.le_of_ble_eq_true hc2.2) (I e)
  | iadd =>
    have hl : ln = 1 := zbeq hln
    subst hl
    dsimp only [zins] at e
    obtain ⟨a, b9, r1, rfl, e⟩ := zb2_inv e
    exact zs_iadd X hd (I e)
  | isub =>
    have hl : ln = 1 := zbeq hln
    subst hl
    dsimp only [zins] at e
    obtain ⟨a, b9, r1, rfl, e⟩ := zb2_inv e
    exact zs_isub X hd (I e)
  | imul =>
    have hl : ln = 1 := zbeq hln
    subst hl
    dsimp only [zins] at e
    obtain ⟨a, b9, r1, rfl, e⟩ := zb2_inv e
    exact zs_imul X hd (I e)
  | iand =>
    have hl : ln = 1 := zbeq hln
    subst hl
    dsimp only [zins] at e
    obtain ⟨a, b9, r1, rfl, e⟩ := zb2_inv e
    exact zs_iand X hd (I e)
  | ior =>
    have hl : ln = 1 := zbeq hln
    subst hl
    dsimp only [zins] at e
    obtain ⟨a, b9, r1, rfl, e⟩ := zb2_inv e
    exact zs_ior X hd (I e)
  | ixor =>
    have hl : ln = 1 := zbeq hln
    subst hl
    dsimp only [zins] at e
    obtain ⟨a, b9, r1, rfl, e⟩ := zb2_inv e
    exact zs_ixor X hd (I e)
  | ishl =>
    have hl : ln = 1 := zbeq hln
    subst hl
    dsimp only [zins] at e
    obtain ⟨a, b9, r1, rfl, e⟩ := zb2_inv e
    exact zs_ishl X hd (I e)
  | ishr =>
    have hl : ln = 1 := zbeq hln
    subst hl
    dsimp only [zins] at e
    obtain ⟨a, b9, r1, rfl, e⟩ := zb2_inv e
    exact zs_ishr X hd (I e)
  | iushr =>
    have hl : ln = 1 := zbeq hln
    subst hl
    dsimp only [zins] at e
    obtain ⟨a, b9, r1, rfl, e⟩ := zb2_inv e
    exact zs_iushr X hd (I e)
  | ladd =>
    have hl : ln = 1 := zbeq hln
    subst hl
    dsimp only [zins] at e
    obtain ⟨a, b9, r1, rfl, e⟩ := zl2_inv e
    exact zs_ladd X hd (I e)
  | lsub =>
    have hl : ln = 1 := zbeq hln
    subst hl
    dsimp only [zins] at e
    obtain ⟨a, b9, r1, rfl, e⟩ := zl2_inv e
    exact zs_lsub X hd (I e)
  | lmul =>
    have hl : ln = 1 := zbeq hln
    subst hl
    dsimp only [zins] at e
    obtain ⟨a, b9, r1, rfl, e⟩ := zl2_inv e
    exact zs_lmul X hd (I e)
  | land =>
    have hl : ln = 1 := zbeq hln
    subst hl
    dsimp only [zins] at e
    obtain ⟨a, b9, r1, rfl, e⟩ := zl2_inv e
    exact zs_land X hd (I e)
  | lor =>
    have hl : ln = 1 := zbeq hln
    subst hl
    dsimp only [zins] at e
    obtain ⟨a, b9, r1, rfl, e⟩ := zl2_inv e
    exact zs_lor X hd (I e)
  | idiv =>
    have hl : ln = 1 := zbeq hln
    subst hl
    dsimp only [zins] at e
    split at e
    · obtain ⟨h1, e⟩ := znz_inv e
      exact zs_idiv X hd h1 (I e)
    · cases e
  | irem =>
    have hl : ln = 1 := zbeq hln
    subst hl
    dsimp only [zins] at e
    split at e
    · obtain ⟨h1, e⟩ := znz_inv e
      exact zs_irem X hd h1 (I e)
    · cases e
  | ldiv =>
    have hl : ln = 1 := zbeq hln
    subst hl
    dsimp only [zins] at e
    split at e
    · obtain ⟨h1, e⟩ := znzl_inv e
      exact zs_ldiv X hd h1 (I e)
    · cases e
  | lcmp =>
    have hl : ln = 1 := zbeq hln
    subst hl
    dsimp only [zins] at e
    split at e
    · exact zs_lcmp X hd (I e)
    · cases e
  | i2l =>
    have hl : ln = 1 := zbeq hln
    subst hl
    dsimp only [zins] at e
    split at e
    · exact zs_i2l X hd (I e)
    · cases e
  | l2i =>
    have hl : ln = 1 := zbeq hln
    subst hl
    dsimp only [zins] at e
    split at e
    · exact zs_l2i X hd (I e)
    · cases e
  | i2b =>
    have hl : ln = 1 := zbeq hln
    subst hl
    dsimp only [zins] at e
    split at e
    · exact zs_i2b X hd (I e)
    · cases e
  | dup =>
    have hl : ln = 1 := zbeq hln
    subst hl
    dsimp only [zins] at e
    split at e
    · obtain ⟨h1, e⟩ := zcond e
      exact zs_dup X hd h1 (I e)
    · cases e
  | pop =>
    have hl : ln = 1 := zbeq hln
    subst hl
    dsimp only [zins] at e
    split at e
    · obtain ⟨h1, e⟩ := zcond e
      exact zs_pop X hd h1 (I e)
    · cases e
  | dup2 =>
    have hl : ln = 1 := zbeq hln
    subst hl
    dsimp only [zins] at e
    split at e
    · obtain ⟨h1, e⟩ := zcond e
      rw [Bool.and_eq_true] at h1
      exact zs_dup2 X hd h1.1 h1.2 (I e)
    · cases e
  | goto o =>
    have hl : ln = 3 := zbeq hln
    subst hl
    exact zs_goto X hd (of_decide_eq_true (show decide ((pc : Int) + o = (a1 : Int)) = true from hc)) (I e)
  | ifCond k o =>
    have hl : ln = 3 := zbeq hln
    subst hl
    dsimp only [zins] at e
    obtain ⟨x, r1, rfl, h1, h2⟩ := zif1_inv e
    exact zs_if1 X hd (of_decide_eq_true (show decide ((pc : Int) + o = (a1 : Int)) = true from hc)) (fun w => I (h1 w)) (fun w => I (h2 w))
  | if_icmp k o =>
    have hl : ln = 3 := zbeq hln
    subst hl
    dsimp only [zins] at e
    obtain ⟨x, y9, r1, rfl, h1, h2⟩ := zif2_inv e
    exact zs_if2 X hd (of_decide_eq_true (show decide ((pc : Int) + o = (a1 : Int)) = true from hc)) (fun w => I (h1 w)) (fun w => I (h2 w))
  | ifnull o =>
    have hl : ln = 3 := zbeq hln
    subst hl
    dsimp only [zins] at e
    rcases znul_inv e with ⟨r1, rfl, e⟩ | ⟨a, r1, rfl, e⟩
    · exact zs_ifnullN X hd (of_decide_eq_true (show decide ((pc : Int) + o = (a1 : Int)) = true from hc)) (I e)
    · exact zs_ifnullR X hd (I e)
  | ifnonnull o =>
    have hl : ln = 3 := zbeq hln
    subst hl
    dsimp only [zins] at e
    rcases znul_inv e with ⟨r1, rfl, e⟩ | ⟨a, r1, rfl, e⟩
    · exact zs_ifnonN X hd (I e)
    · exact zs_ifnonR X hd (of_decide_eq_true (show decide ((pc : Int) + o = (a1 : Int)) = true from hc)) (I e)
  | tableswitch df lo hi offs =>
    dsimp only [zins] at e
    split at e
    · split at e
      · rename_i r1 L t hs
        have hc2 : (match (generalizing := false) zat zsws a1 with
          | some (l, t) => decide ((pc : Int) + df = (t : Int)) && zswchk pc offs.toList lo l && decide (lo + (offs.size : Int) = hi + 1)
          | none => false) = true := hc
        rw [hs] at hc2
        simp only [Bool.and_eq_true, decide_eq_true_eq] at hc2
        rcases zsw_inv e with ⟨t9, h1, e⟩ | ⟨h1, e⟩
        · exact zs_swIn X hd hc2.1.2 hc2.2 h1 (I e)
        · exact zs_swOut X hd hc2.1.2 hc2.2 hc2.1.1 h1 (I e)
      · cases e
    · cases e
  | getfield i =>
    have hl : ln = 3 := zbeq hln
    subst hl
    obtain ⟨C, T, N, h1, h2, h3⟩ := zfl_of hc hT args
    dsimp only [zins] at e
    obtain ⟨a, r1, sl, rfl, h4, ⟨h5, e⟩ | ⟨o, h5, e⟩⟩ := zget_inv e
    · exact zs_getI X h1 h2 hT h3 h4 h5 hd (I e)
    · exact zs_getA X h1 h2 hT h3 h4 h5 hd (I e)
  | putfield i =>
    have hl : ln = 3 := zbeq hln
    subst hl
    have hc2 : (zflchk y.cls i a1 a2 a3 w && (match zat vwCl a1 with
          | some (_, T, _) => ((T a2).2.2.2 == false || (Nat.beq a3 0 && decide (y.cls = (T a2).1) && decide (y.name = "<init>")))
          | none => false) && decide (z = (match zcty a1 a2 with
          | .boolean => 1
          | _ => 0))) = true := hc
    rw [Bool.and_eq_true, Bool.and_eq_true] at hc2
    obtain ⟨C, T, N, h1, h2, h3⟩ := zfl_of hc2.1.1 hT args
    have h7 := hc2.1.2
    rw [h1] at h7
    simp only [Bool.or_eq_true, Bool.and_eq_true, beq_iff_eq, decide_eq_true_eq] at h7
    have h8 : (T a2).2.2.2 = false ∨ (a3 = 0 ∧ y.cls = (T a2).1 ∧ y.name = "<init>") := h7.imp id (fun z => ⟨zbeq z.1.1, z.1.2, z.2⟩)
    have h9 := of_decide_eq_true hc2.2
    dsimp only [zins] at e
    rcases zput_inv e with ⟨y9, a, r1, sl, rfl, h4, h5, h6, e⟩ | ⟨b9, a, r1, sl, o, rfl, h4, h5, e⟩
    · refine zs_putI X h1 h2 hT h3 h8 h4 h5 (fun hb9 => ?_) hd (I e)
      rw [hb9] at h9
      rcases h6 with h6 | h6
      · rw [h6] at h9; exact absurd h9 (by decide)
      · exact h6
    · exact zs_putA X h1 h2 hT h3 h8 h4 h5 hd (I e)
  | iaload =>
    have hl : ln = 1 := zbeq hln
    subst hl
    dsimp only [zins] at e
    rcases zald_inv e with ⟨j, a, r1, n, rf, rfl, h1, h2, e⟩ | ⟨j, f, r1, rfl, h1, e⟩
    · exact zs_iaload X h1 h2 hd (I e)
    · exact zs_saload X hEW h1 hd (I e)
  | baload =>
    have hl : ln = 1 := zbeq hln
    subst hl
    dsimp only [zins] at e
    obtain ⟨j, a, r1, n, rf, rfl, h1, h2, e⟩ := zaldB_inv e
    exact zs_baload X h1 h2 hd (I e)
  | laload =>
    have hl : ln = 1 := zbeq hln
    subst hl
    dsimp only [zins] at e
    obtain ⟨j, a, r1, n, rf, rfl, h1, h2, e⟩ := zaldJ_inv e
    exact zs_laload X h1 h2 hd (I e)
  | aaload =>
    have hl : ln = 1 := zbeq hln
    subst hl
    dsimp only [zins] at e
    obtain ⟨j, a, r1, t, n, rf, o, rfl, h1, h2, h3, h4, e⟩ := zaldA_inv e
    exact zs_aaload X h1 h2 h3 h4 hd (I e)
  | iastore =>
    have hl : ln = 1 := zbeq hln
    subst hl
    dsimp only [zins] at e
    obtain ⟨x, j, a, r1, n, rf, rfl, h1, h2, e⟩ := zast_inv e
    exact zs_iastore X h1 h2 hd (I e)
  | bastore =>
    have hl : ln = 1 := zbeq hln
    subst hl
    dsimp only [zins] at e
    obtain ⟨x, j, a, r1, n, rf, rfl, h1, h2, e⟩ := zastB_inv e
    exact zs_bastore X h1 h2 hd (I e)
  | lastore =>
    have hl : ln = 1 := zbeq hln
    subst hl
    dsimp only [zins] at e
    obtain ⟨x, j, a, r1, n, rf, rfl, h1, h2, e⟩ := zastJ_inv e
    exact zs_lastore X h1 h2 hd (I e)
  | aastore =>
    have hl : ln = 1 := zbeq hln
    subst hl
    dsimp only [zins] at e
    obtain ⟨b9, j, a, r1, k, n, rf, sl, rfl, h1, h2, h3, e⟩ := zastA_inv e
    exact zs_aastore X h1 h2 h3 hd (I e)
  | arraylength =>
    have hl : ln = 1 := zbeq hln
    subst hl
    dsimp only [zins] at e
    rcases zalen_inv e with ⟨a, r1, t, n, rf, rfl, h1, e⟩ | ⟨f, r1, rfl, e⟩
    · exact zs_alen X h1 hd (I e)
    · exact zs_salen X hEW hd (I e)
  | newarray t =>
    have hl : ln = 2 := zbeq hln
    subst hl
    dsimp only [zins] at e
    obtain ⟨n, r1, rfl, h1, h2, e⟩ := znewa_inv e
    have hc2 : (Nat.blt a1 3 && decide (newarray.typeOf t = zaty a1) && zwd w (Jvm.Cond.arrayClass (zaty a1))) = true := hc
    rw [Bool.and_eq_true, Bool.and_eq_true] at hc2
    have h3 : a1 < 3 := Nat.le_of_ble_eq_true hc2.1.1
    have h4 := of_decide_eq_true hc2.1.2
    have h5 : (Jvm.Cond.arrayClass (newarray.typeOf t)).before args s = true := by rw [h4]; exact hT.use hc2.2 rfl
    match a1, h3 with
    | 0, _ => exact zs_newa0 X h4 h5 h1 h2 hz0 (M e) hmc hms hd (I e)
    | 1, _ => exact zs_newa1 X h4 h5 h1 h2 hz0 (M e) hmc hms hd (I e)
    | 2, _ => exact zs_newa2 X h4 h5 h1 h2 hz0 (M e) hmc hms hd (I e)
  | anewarray i =>
    have hl : ln = 3 := zbeq hln
    subst hl
    dsimp only [zins] at e
    obtain ⟨n, r1, rfl, h1, h2, e⟩ := znewa_inv e
    have hc2 : (match (generalizing := false) a1 with
        | 3 => zwd w (Jvm.Cond.classLink y.cls i RX0) && zwd a2 (Jvm.Cond.arrayOver (.object RX0))
        | 4 => zwd w (Jvm.Cond.classLink y.cls i RX1) && zwd a2 (Jvm.Cond.arrayOver (.object RX1))
        | _ => false) = true := hc
    split at hc2
    · rw [Bool.and_eq_true] at hc2
      exact zs_anew3 X (hT.use hc2.1 rfl) (hT.use hc2.2 rfl) h1 h2 hz0 (M e) hmc hms hd (I e)
    · rw [Bool.and_eq_true] at hc2
      exact zs_anew4 X (hT.use hc2.1 rfl) (hT.use hc2.2 rfl) h1 h2 hz0 (M e) hmc hms hd (I e)
    · cases hc2
  | new i =>
    have hl : ln = 3 := zbeq hln
    subst hl
    cases a1 with
    | zero =>
      change (match zat zcsh a2 with | some sl => ih d mi (pc + 3) ls (.ref h.1.length :: st) (zpush h (.inr (.inl (a2, sl))) sl.length) | none => none) = some (r, h') at e
      split at e
      · rename_i sl hsl
        have hc2 : (match (generalizing := false) zat vwCl a2 with
          | some (C, _, _) => zwd w (Jvm.Cond.classLink y.cls i C)
          | none => false) = true := hc
        split at hc2
        · rename_i C T N hcl
          exact zs_new X hcl hsl hT (hT.use hc2 rfl) hz0 (M e) hmc hms hd (I e)
        · cases hc2
      · cases e
    | succ a1 =>
      dsimp only [zins] at e
      obtain ⟨h1, e⟩ := zcond e
      cases e
      have hc2 : (match (generalizing := false) zat zsref a3, zat zxn a2 with
            | some (o, k, _), some XN => decide (o = y.cls) && decide (y.cls = "SandHouse") && zwd w (Jvm.Cond.classLink y.cls i XN) && decide (decode cc (pc + 3) = .ok (.dup, 1)) &&
              cond (decide (z = 0)) (decide (decode cc (pc + 4) = .ok (.ldc k, 2)) && decide (decode cc (pc + 6) = .ok (.invokespecial (zxi a2), 3)) && decide (decode cc (pc + 9) = .ok (.athrow, 1)))
                (decide (decode cc (pc + 4) = .ok (.ldc_w k, 3)) && decide (decode cc (pc + 7) = .ok (.invokespecial (zxi a2), 3)) && decide (decode cc (pc + 10) = .ok (.athrow, 1)))
            | _, _ => false) = true := hc
      split at hc2
      · rename_i o k tx XN hs hxn
        simp only [Bool.and_eq_true, decide_eq_true_eq] at hc2
        obtain ⟨⟨⟨⟨q1, q2⟩, q3⟩, q4⟩, q5⟩ := hc2
        obtain ⟨-, -, -, zi4⟩ := zh_at hmi
        rw [q1] at hs
        refine zs_throw X hEW htr hxn q2 (zi4 q2) hs (zwd_mem q3) (Nat.le_of_ble_eq_true h1) hfr10 hlo3 hmc hms hd q4 ?_
        by_cases hz9 : z = 0
        · rw [decide_eq_true hz9] at q5
          simp only [cond_true, Bool.and_eq_true, decide_eq_true_eq] at q5
          exact Or.inl ⟨q5.1.1, q5.1.2, q5.2⟩
        · rw [decide_eq_false hz9] at q5
          simp only [cond_false, Bool.and_eq_true, decide_eq_true_eq] at q5
          exact Or.inr ⟨q5.1.1, q5.1.2, q5.2⟩
      · cases hc2
  | invokevirtual i =>
    have hl : ln = 3 := zbeq hln
    subst hl
    cases a1 with
    | zero =>
      have hc2 : (match (generalizing := false) zat zmn a2, zat zmi a2 with
          | some (y9, _), some (_, _, 0, _) => zmlchk y.cls i a2 a3 w y9 && decide (y9.name ≠ "<init>")
          | _, _ => false) = true := hc
      split at hc2
      · rename_i y9 r9 na mL9 r8 hj hji
        obtain ⟨ccj, mLj, retj, hhj, qj⟩ := r9
        obtain ⟨ci, rk, kd⟩ := r8
        rw [Bool.and_eq_true] at hc2
        have hj0 : 0 < a2 := by
          cases a2 with
          | zero => cases hji
          | succ n => exact Nat.succ_pos n
        exact zs_invV IH hM hmi X hEW hfr hlo hmc hms (fun hh9 => zbeq hh9) hj0 hj (of_decide_eq_true hc2.2) hji (by cases a3 <;> exact zlk_of hc2.1) hd e
      · cases hc2
    | succ k =>
      have hc2 := hc
      rcases zpri_inv (show zpri (ih d mi (pc + 3)) (k + 1) ls st h = some (r, h') from e) with ⟨hk, -⟩ | ⟨hk, -⟩ | ⟨hk, -⟩ | ⟨hk, i9, r1, bs, rfl, h1, h2, e2⟩ | ⟨hk, j, i9, r1, bs, b9, rfl, h1, h2, h3, h4, e2⟩ | ⟨hk, -⟩
      · cases hk; cases hc2
      · cases hk; cases hc2
      · cases hk; cases hc2
      · cases hk; exact zs_strlen X hEW h1 h2 (zwd_mem hc2) hfr10 hlo3 hmc hms (M e2) hd (I e2)
      · cases hk; exact zs_strch X hEW h1 h2 h3 h4 (zwd_mem hc2) hfr10 hlo3 hmc hms (M e2) hd (I e2)
      · cases hk; cases hc2
  | invokespecial i =>
    have hl : ln = 3 := zbeq hln
    subst hl
    cases a1 with
    | zero =>
      have hc2 : (match (generalizing := false) zat zmn a2, zat zmi a2 with
          | some (y9, _), some (_, _, 0, _) => zmlchk y.cls i a2 a3 w y9 && decide (y9.name = "<init>")
          | _, _ => false) = true := hc
      split at hc2
      · rename_i y9 r9 na mL9 r8 hj hji
        obtain ⟨ccj, mLj, retj, hhj, qj⟩ := r9
        obtain ⟨ci, rk, kd⟩ := r8
        rw [Bool.and_eq_true] at hc2
        have hj0 : 0 < a2 := by
          cases a2 with
          | zero => cases hji
          | succ n => exact Nat.succ_pos n
        exact zs_invI IH hM hmi X hEW hfr hlo hmc hms rfl hj0 hj (of_decide_eq_true hc2.2) hji (zlk_of hc2.1) hd e
      · cases hc2
    | succ k =>
      have hc2 := hc
      rcases zpri_inv (show zpri (ih d mi (pc + 3)) (k + 1) ls st h = some (r, h') from e) with ⟨hk, a, r1, rfl, h1, e2⟩ | ⟨hk, -⟩ | ⟨hk, -⟩ | ⟨hk, -⟩ | ⟨hk, -⟩ | ⟨hk, -⟩
      · cases hk; exact zs_objInit X hT h1 (zwd_mem hc2) hfr1 hlo3 hd (I e2)
      · cases hk; cases hc2
      · cases hk; cases hc2
      · cases hk; cases hc2
      · cases hk; cases hc2
      · cases hk; cases hc2
  | invokestatic i =>
    have hl : ln = 3 := zbeq hln
    subst hl
    cases a1 with
    | zero =>
      have hc2 : (match (generalizing := false) zat zmn a2, zat zmi a2 with
          | some (y9, _), some (_, _, 1, _) => zmlchk y.cls i a2 a3 w y9
          | _, _ => false) = true := hc
      split at hc2
      · rename_i y9 r9 na mL9 r8 hj hji
        obtain ⟨ccj, mLj, retj, hhj, qj⟩ := r9
        obtain ⟨ci, rk, kd⟩ := r8
        have hj0 : 0 < a2 := by
          cases a2 with
          | zero =>
            exfalso
            have h1 := zmn0_no (zlk_of hc2) hj
            exact h1
          | succ n => exact Nat.succ_pos n
        exact zs_invS IH hM hmi X hEW hfr hlo hmc hms (fun hh9 => zbeq hh9) hj0 hj hji (by cases a3 <;> exact zlk_of hc2) (fun hk => zsw_nest hj hji (zlk_of hc2) hk) hd e
      · cases hc2
    | succ k =>
      have hc2 := hc
      rcases zpri_inv (show zpri (ih d mi (pc + 3)) (k + 1) ls st h = some (r, h') from e) with ⟨hk, -⟩ | ⟨hk, x, y9, r1, rfl, h1, e2⟩ | ⟨hk, x, y9, r1, rfl, h1, e2⟩ | ⟨hk, -⟩ | ⟨hk, -⟩ | ⟨hk, e2⟩
      · cases hk; cases hc2
      · cases hk; exact zs_min X hT h1 (zwd_mem hc2) hfr1 hlo3 hmc hms (M e2) hd (I e2)
      · cases hk; exact zs_max X hT h1 (zwd_mem hc2) hfr1 hlo3 hmc hms (M e2) hd (I e2)
      · cases hk; cases hc2
      · cases hk; cases hc2
      · cases hk
        obtain ⟨n, dp, b9, sp, a, r1, na, ra, nb, rb, rfl, k1, k2, k3, k4, k5, k6, k7, k8, e2⟩ := zcopy_inv e2
        exact zs_copy X hT k1 k2 k3 k4 k5 k6 k7 k8 (zwd_mem hc2) hfr1 hlo3 hd (I e2)
  | ireturn =>
    have hl : ln = 1 := zbeq hln
    subst hl
    dsimp only [zins] at e
    split at e
    · split at e
      · rename_i hz9
        cases e
        exact zs_ret X hd ((hrk _ _ _ _ _ _ hz9).2.1 rfl) rfl
      · rename_i hz9
        obtain ⟨h1, e⟩ := zc01_inv e
        cases e
        refine zs_ret X hd ((hrk _ _ _ _ _ _ hz9).2.2 rfl) ?_
        rcases h1 with rfl | rfl <;> rfl
      · cases e
    · cases e
  | return_ =>
    have hl : ln = 1 := zbeq hln
    subst hl
    dsimp only [zins] at e
    split at e
    · split at e
      · rename_i hz9
        cases e
        exact zs_retV X hd ((hrk _ _ _ _ _ _ hz9).1 rfl)
      · cases e
    · cases e
  | _ =>
    exact absurd (show (none : Option zR) = some (r, h') from e) (fun z => nomatch z)
end ZFIN
set_option maxRecDepth 100000 in
theorem zrk_at {mi : Nat} {y : MethodName} {cc : ByteArray} {mL : Nat} {ret : Option FieldType} {hh : List (Nat × Nat × Nat × Nat)} {q : Nat × Nat × Nat × Nat} (hmi : zat zmn mi = some (y, cc, mL, ret, hh, q)) : ∀ na mL' stc ci rk kd, zat zmi mi = some (na, mL', stc, ci, rk, kd) → (rk = 0 → ret = none) ∧ (rk = 1 → ret = some .int) ∧ (rk = 2 → ret = some .boolean) := by
  intro na mL' stc ci rk kd hi
  cases mi with
  | zero =>
    cases (Option.some.inj hi)
    cases (Option.some.inj hmi)
    exact ⟨(fun h => nomatch h), (fun h => nomatch h), fun _ => rfl⟩
  | succ k =>
    obtain ⟨-, hF⟩ := zmok_spec (zmok_all (k + 1) (Nat.succ_pos k) (zmn_lt hmi)) hmi hi
    obtain ⟨-, -, -, -, -, h1, h2, h3, -⟩ := hF
    exact ⟨h1, h2, h3⟩
set_option maxRecDepth 100000 in
theorem zsound {l : Launch} (htr : l.stackTraces = false) (D : va_G) (adK : Nat → Nat) (b z0 : Nat) (E : zE) : ∀ n, zWk l D adK b z0 E (zex E n)
  | 0 => fun _ _ _ _ _ _ _ _ e => nomatch (show (none : Option zR) = _ from e)
  | n + 1 => by
    intro d mi pc ls st h r h' e p e9 R s m args below meth c y cc mL ret hh q ws0 mc ms hmi X hEW hfr hlo hmc hms
    rw [zex_succ] at e
    unfold zbody at e
    split at e
    · cases e
    · rename_i ins ln a1 a2 a3 z w hz
      obtain ⟨y', cc', mL', q', h1, h2⟩ := zfetch_ok hz
      cases hmi.symm.trans h1
      simp only [zichk, Bool.and_eq_true, decide_eq_true_eq] at h2
      exact zins_sound htr (zsound htr D adK b z0 E n) (zex_mono E n) hmi X hEW hfr hlo hmc hms (zrk_at hmi) h2.1.1 h2.1.2 h2.2 e

