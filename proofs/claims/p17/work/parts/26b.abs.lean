noncomputable def a_mk (cs : List (List (zS × aT))) (h : aHp) (k : aHp → Bool) : Bool := match h with
  | (_, q) => k (cs, q)
set_option maxRecDepth 100000 in
theorem a_mk_eq (cs : List (List (zS × aT))) (h : aHp) (k : aHp → Bool) : a_mk cs h k = k (cs, h.2) := by cases h; rfl
noncomputable def a_ldI (k : aSt → Bool) (ls : aLs) (i : Nat) (st : aSt) : Bool := match agt ls i with
  | some (some (.inl c)) => k (.inl c :: st)
  | _ => false
noncomputable def a_ldA (k : aSt → Bool) (ls : aLs) (i : Nat) (st : aSt) : Bool := match agt ls i with
  | some (some (.inr w)) => cond (zisA w) (k (.inr w :: st)) false
  | _ => false
noncomputable def a_ldJ (k : aSt → Bool) (ls : aLs) (i : Nat) (st : aSt) : Bool := match agt ls i with
  | some (some (.inr (.long x))) => k (.inr (.long x) :: st)
  | _ => false
noncomputable def a_stI (k : aLs → aSt → Bool) (ls : aLs) (i : Nat) (st : aSt) : Bool := match st with
  | .inl c :: r => ast (.inl c) i ls fun l => k l r
  | _ => false
noncomputable def a_stA (k : aLs → aSt → Bool) (ls : aLs) (i : Nat) (st : aSt) : Bool := match st with
  | .inr (.ref x) :: r => ast (.inr (.ref x)) i ls fun l => k l r
  | .inr (.double x) :: r => ast (.inr (.double x)) i ls fun l => k l r
  | _ => false
noncomputable def a_inc (k : aLs → Bool) (env : aEn) (ls : aLs) (i : Nat) (z : Int32) : Bool := match agt ls i with
  | some (some (.inl c)) => ares env c fun c => cond (Nat.blt c 4294967296) (afo ((c + aze z + 2147483648) % 4294967296) fun c => ast (.inl c) i ls k) (ast (.inl 1152921504606846976) i ls k)
  | _ => false
noncomputable def a_b2 (k : aSt → Bool) (env : aEn) (g : Nat → Nat → Nat) (st : aSt) : Bool := match st with
  | .inl b :: .inl a :: r => ares env a fun a => ares env b fun b => cond (Nat.blt a 4294967296 && Nat.blt b 4294967296) (afo (g a b) fun c => k (.inl c :: r)) (k (.inl 1152921504606846976 :: r))
  | _ => false
noncomputable def a_and (k : aSt → Bool) (env : aEn) (st : aSt) : Bool := match st with
  | .inl b :: .inl a :: r => cond (Nat.beq a 4294967296 && Nat.beq b 2147483711) (k (.inl 30064771072 :: r)) (a_b2 k env (fun a b => aze (azb a &&& azb b)) st)
  | _ => false
noncomputable def a_l2 (k : aSt → Bool) (f : Int64 → Int64 → Int64) (st : aSt) : Bool := match st with
  | .inr (.long b) :: .inr (.long a) :: r => k (.inr (.long (f a b)) :: r)
  | _ => false
noncomputable def a_if1 (k : aEn → Nat → aSt → Bool) (env : aEn) (c : ClassFile.Cond) (t p : Nat) (st : aSt) : Bool := match st with
  | .inl x :: r => ares env x fun x => (match c with
    | .eq => aeq env x 2147483648 (fun e => k e t r) (fun e => k e p r)
    | .ne => aeq env x 2147483648 (fun e => k e p r) (fun e => k e t r)
    | .lt => alt env x 2147483648 (fun e => k e t r) (fun e => k e p r)
    | .ge => alt env x 2147483648 (fun e => k e p r) (fun e => k e t r)
    | .gt => alt env 2147483648 x (fun e => k e t r) (fun e => k e p r)
    | .le => alt env 2147483648 x (fun e => k e p r) (fun e => k e t r))
  | _ => false
noncomputable def a_if2 (k : aEn → Nat → aSt → Bool) (env : aEn) (c : ClassFile.Cond) (t p : Nat) (st : aSt) : Bool := match st with
  | .inl y :: .inl x :: r => ares env x fun x => ares env y fun y => (match c with
    | .eq => aeq env x y (fun e => k e t r) (fun e => k e p r)
    | .ne => aeq env x y (fun e => k e p r) (fun e => k e t r)
    | .lt => alt env x y (fun e => k e t r) (fun e => k e p r)
    | .ge => alt env x y (fun e => k e p r) (fun e => k e t r)
    | .gt => alt env y x (fun e => k e t r) (fun e => k e p r)
    | .le => alt env y x (fun e => k e p r) (fun e => k e t r))
  | _ => false
noncomputable def a_nul (k : Nat → aSt → Bool) (t p : Nat) (st : aSt) : Bool := match st with
  | .inr .null :: r => k t r
  | .inr (.ref _) :: r => k p r
  | _ => false
noncomputable def a_get (k : aSt → Bool) (h : aHp) (ci fk : Nat) (st : aSt) : Bool := match st with
  | .inr (.ref a) :: r => (match aget h.1 a with
    | some (.inr (.inl (c, sl)), t) => cond (Nat.beq c ci) (match agt sl fk with
      | some none => afo (agI t fk) fun x => k (.inl x :: r)
      | some (some none) => k (.inr .null :: r)
      | some (some (some o)) => k (.inr (.ref o) :: r)
      | none => false) false
    | _ => false)
  | _ => false
noncomputable def a_bz (env : aEn) (z : Int32) (y : Nat) (r : Bool) : Bool := cond (Nat.beq (aze z) 2147483648) r (ares env y fun y => cond (Nat.beq y 2147483648 || Nat.beq y 2147483649) r false)
noncomputable def a_put (k : aSt → aHp → Bool) (env : aEn) (h : aHp) (ci fk : Nat) (z : Int32) (st : aSt) : Bool := match st with
  | .inl y :: .inr (.ref a) :: r => (match aget h.1 a with
    | some (.inr (.inl (c, sl)), t) => cond (Nat.beq c ci) (match agt sl fk with
      | some none => a_bz env z y (asI t fk y fun t' => aput h.1 a (.inr (.inl (c, sl)), t') fun cs => a_mk cs h (k r))
      | _ => false) false
    | _ => false)
  | .inr (.ref b) :: .inr (.ref a) :: r => (match aget h.1 a with
    | some (.inr (.inl (c, sl)), t) => cond (Nat.beq c ci) (match agt sl fk with
      | some (some _) => asd none fk (some (some b)) sl fun sl' => aput h.1 a (.inr (.inl (c, sl')), t) fun cs => a_mk cs h (k r)
      | _ => false) false
    | _ => false)
  | _ => false
noncomputable def a_ix (env : aEn) (j n : Nat) (k : Nat → Bool) : Bool := ares env j fun j => cond (Nat.ble 2147483648 j && Nat.blt j (2147483648 + n) && Nat.blt j 4294967296) (afo (j - 2147483648) k) false
noncomputable def a_arr (h : aHp) (t a : Nat) (k : Nat → List (Option Nat) → aT → Bool) : Bool := match aget h.1 a with
  | some (.inl (t', n, rf), tr) => cond (Nat.beq t' t) (k n rf tr) false
  | _ => false
noncomputable def a_ald (N : Nat) (k : aSt → Bool) (env : aEn) (h : aHp) (st : aSt) : Bool := match st with
  | .inl j :: .inr (.ref a) :: r => a_arr h 0 a fun n _ tr => a_ix env j n fun i => afo (agI tr i) fun x => k (.inl x :: r)
  | .inl j :: .inr (.float _) :: r => cond (Nat.blt N 2147483648) (a_ix env j N fun i => afo (4294967296 * (i + 1)) fun x => cond (Nat.blt i 6) (k (.inl x :: r)) false) false
  | _ => false
noncomputable def a_aldB (k : aSt → Bool) (env : aEn) (h : aHp) (st : aSt) : Bool := match st with
  | .inl j :: .inr (.ref a) :: r => a_arr h 1 a fun n _ tr => a_ix env j n fun i => afo (agI tr i) fun x => k (.inl x :: r)
  | _ => false
noncomputable def a_aldJ (k : aSt → Bool) (env : aEn) (h : aHp) (st : aSt) : Bool := match st with
  | .inl j :: .inr (.ref a) :: r => a_arr h 2 a fun n _ _ => a_ix env j n fun i => (match h.2 with
    | some (_, J, _, _) => k (.inr (.long (J a i)) :: r)
    | none => false)
  | _ => false
noncomputable def a_aldA (k : aSt → Bool) (env : aEn) (h : aHp) (st : aSt) : Bool := match st with
  | .inl j :: .inr (.ref a) :: r => (match aget h.1 a with
    | some (.inl (t, n, rf), _) => cond (Nat.ble 3 t) (a_ix env j n fun i => (match agt rf i with
      | some none => k (.inr .null :: r)
      | some (some o) => k (.inr (.ref o) :: r)
      | none => false)) false
    | _ => false)
  | _ => false
noncomputable def a_ast (k : aSt → aHp → Bool) (env : aEn) (h : aHp) (st : aSt) : Bool := match st with
  | .inl x :: .inl j :: .inr (.ref a) :: r => (match aget h.1 a with
    | some (.inl (t, n, rf), tr) => cond (Nat.beq t 0) (a_ix env j n fun i => asI tr i x fun tr' => aput h.1 a (.inl (t, n, rf), tr') fun cs => a_mk cs h (k r)) false
    | _ => false)
  | _ => false
noncomputable def a_by (env : aEn) (x : Nat) (k : Nat → Bool) : Bool := ares env x fun x => cond (Nat.blt x 4294967296) (afo (aze (azb x).toInt8.toInt32) k) (k 1152921504606846976)
noncomputable def a_astB (k : aSt → aHp → Bool) (env : aEn) (h : aHp) (st : aSt) : Bool := match st with
  | .inl x :: .inl j :: .inr (.ref a) :: r => (match aget h.1 a with
    | some (.inl (t, n, rf), tr) => cond (Nat.beq t 1) (a_ix env j n fun i => a_by env x fun x => asI tr i x fun tr' => aput h.1 a (.inl (t, n, rf), tr') fun cs => a_mk cs h (k r)) false
    | _ => false)
  | _ => false
noncomputable def a_astJ (k : aSt → aHp → Bool) (env : aEn) (h : aHp) (st : aSt) : Bool := match st with
  | .inr (.long x) :: .inl j :: .inr (.ref a) :: r => a_arr h 2 a fun n _ _ => a_ix env j n fun i => (match h.2 with
    | some (m, J, c, q) => (match h with
      | (cs, _) => k r (cs, some (m, zrow J a (vp_updL (J a) i x), c, q)))
    | none => false)
  | _ => false
noncomputable def a_astA (k : aSt → aHp → Bool) (env : aEn) (h : aHp) (st : aSt) : Bool := match st with
  | .inr (.ref b) :: .inl j :: .inr (.ref a) :: r => (match aget h.1 a with
    | some (.inl (t, n, rf), tr) => cond (Nat.ble 3 t) (a_ix env j n fun i => (match agt rf i with
      | some _ => (match aget h.1 b with
        | some (.inr (.inl (c, _)), _) => cond (Nat.beq (c + 3) t) (asd none i (some b) rf fun rf' => aput h.1 a (.inl (t, n, rf'), tr) fun cs => a_mk cs h (k r)) false
        | _ => false)
      | none => false)) false
    | _ => false)
  | _ => false
noncomputable def a_len (N : Nat) (k : aSt → Bool) (h : aHp) (st : aSt) : Bool := match st with
  | .inr (.ref a) :: r => (match aget h.1 a with
    | some (.inl (_, n, _), _) => cond (Nat.blt n 2147483648) (afo (n + 2147483648) fun x => k (.inl x :: r)) false
    | _ => false)
  | .inr (.float _) :: r => cond (Nat.blt N 2147483648) (afo (N + 2147483648) fun x => k (.inl x :: r)) false
  | _ => false
noncomputable def a_rpn (n : Nat) : (List (Option Nat) → Bool) → Bool := Nat.rec (motive := fun _ => (List (Option Nat) → Bool) → Bool) (fun k => k []) (fun _ ih k => ih (fun r => k (none :: r))) n
set_option maxRecDepth 100000 in
theorem a_rpn_eq : ∀ (n : Nat) (k : List (Option Nat) → Bool), a_rpn n k = k (List.replicate n none)
  | 0, _ => rfl
  | n + 1, k => a_rpn_eq n (fun r => k (none :: r))
noncomputable def a_newa (k : aSt → aHp → Bool) (env : aEn) (h : aHp) (t : Nat) (st : aSt) : Bool := match st with
  | .inl n :: r => ares env n fun n => cond (Nat.ble 2147483648 n && Nat.ble n 2147583648) (afo (n - 2147483648) fun n => cond (Nat.ble 3 t)
      (a_rpn n fun rf => apsh h (.inl (t, n, rf)) n fun m h' => k (.inr (.ref m) :: r) h')
      (apsh h (.inl (t, n, [])) n fun m h' => k (.inr (.ref m) :: r) h')) false
  | _ => false
noncomputable def a_cp (f : aT) (sp dp : Nat) (n : Nat) : aT → (aT → Bool) → Bool := Nat.rec (motive := fun _ => aT → (aT → Bool) → Bool) (fun t k => k t)
  (fun m ih t k => afo (agI f (sp + m)) fun x => afo (dp + m) fun i => asI t i x fun t' => ih t' k) n
noncomputable def a_copy (k : aSt → aHp → Bool) (env : aEn) (h : aHp) (st : aSt) : Bool := match st with
  | .inl n :: .inl dp :: .inr (.ref b) :: .inl sp :: .inr (.ref a) :: r => a_arr h 0 a fun na _ ta => (match aget h.1 b with
    | some (.inl (t, nb, rf), tb) => cond (Nat.beq t 0) (a_ix env n 2147483648 fun n => a_ix env dp 2147483648 fun dp => a_ix env sp 2147483648 fun sp =>
        cond (Nat.ble (sp + n) na && Nat.ble (dp + n) nb && Nat.ble (asu r) 8) (a_cp ta sp dp n tb fun tb' => aput h.1 b (.inl (t, nb, rf), tb') fun cs => a_mk cs h (k r)) false) false
    | _ => false)
  | _ => false
noncomputable def a_recv (h : aHp) (stc ci : Nat) (as : aSt) (r : Bool) : Bool := match stc with
  | 0 => (match as with
    | .inr (.ref k) :: _ => (match aget h.1 k with
      | some (.inr (.inl (c, _)), _) => cond (Nat.beq c ci) r false
      | _ => false)
    | _ => false)
  | _ + 1 => r
noncomputable def a_inv (sj : Nat → Bool) (sm : Nat → Nat → Nat → aEn → aSt → aHp → (Option aV → aHp → Bool) → Bool) (ih : aF) (n : Nat) (env : aEn) (fs : List aFm) (d mi pc nx j : Nat) (tx : Bool) (ls : aLs) (st : aSt) (h : aHp) : Bool := match zat zmi j with
  | none => false
  | some (na, mL, stc, ci, _, kd) => apop na st [] fun as r => cond (Nat.ble (asu r) 8 && as.all ac1) (a_recv h stc ci as (match d with
    | 0 => false
    | d' + 1 => cond (sj j) (sm j n d' env as h fun v h => (match v with
      | some v => ih n env fs d mi nx ls (v :: r) h
      | none => ih n env fs d mi nx ls r h)) (aent as mL fun l => ih n env ((d, mi, pc, nx, ls, r, tx, kd, n) :: fs) d' j 0 l [] h))) false
noncomputable def a_ret (ih : aF) (fin : aEn → Option aV → aHp → Bool) (env : aEn) (fs : List aFm) (v : Option aV) (h : aHp) : Bool := match fs with
  | [] => fin env v h
  | (d, mi, _, nx, ls, r, _, _, n) :: fs => (match v with
    | some v => ih n env fs d mi nx ls (v :: r) h
    | none => ih n env fs d mi nx ls r h)
noncomputable def a_thr (ih : aF) (env : aEn) (x : Nat) (h : aHp) (fs : List aFm) : Bool := List.rec (motive := fun _ => Bool) false (fun f fs r => match f with
  | (d, mi, pc, _, ls, _, tx, kd, n) => cond (tx && Nat.beq kd 0) (match zat zhs mi with
    | some (e :: l) => (match zhand (e :: l) pc x with
      | some t => afo t fun t => ih n env fs d mi t ls [.inr (.double 0)] h
      | none => false)
    | _ => r) false) fs
noncomputable def a_sw (k : aEn → Nat → Bool) (x : Nat) (t : Nat) (l : List (Int32 × Nat)) : aEn → Bool := List.rec (motive := fun _ => aEn → Bool) (fun env => k env t) (fun q _ ih env => aeq env x (aze q.1) (fun env => k env q.2) ih) l
set_option maxRecDepth 100000 in
theorem acnd {c r : Bool} (h : cond c r false = true) : c = true ∧ r = true := by
  cases c
  · cases h
  · exact ⟨rfl, h⟩
section AOPS
variable {E : zE} {V : Nat → Int32} {G : zH} {P : Option zR → Prop} {env : aEn} {als : aLs} {ls : zLs} {a : aSt} {s : List Value} {ah : aHp} {h : zH}
set_option maxRecDepth 100000 in
theorem a_ldI_s {k : aSt → Bool} {K : List Value → Option zR} {i : Nat} (hl : aLR V als ls) (hs : aSR V a s) (hk : ∀ a s, aSR V a s → k a = true → P (K s)) (e : a_ldI k als i a = true) : P (zldI K ls i s) := by
  unfold a_ldI at e
  rw [agt_eq] at e
  split at e
  · rename_i c hc
    obtain ⟨w, h1, x, h2, h3⟩ := aLR_at hl hc
    subst h2
    unfold zldI
    rw [h1]
    exact hk _ _ (aSR_ci (h3) hs) e
  · cases e
set_option maxRecDepth 100000 in
theorem a_ldA_s {k : aSt → Bool} {K : List Value → Option zR} {i : Nat} (hl : aLR V als ls) (hs : aSR V a s) (hk : ∀ a s, aSR V a s → k a = true → P (K s)) (e : a_ldA k als i a = true) : P (zldA K ls i s) := by
  unfold a_ldA at e
  rw [agt_eq] at e
  split at e
  · rename_i v hc
    obtain ⟨w, h1, h2⟩ := aLR_at hl hc
    have h2 : w = v := h2
    subst h2
    obtain ⟨h3, e⟩ := acnd e
    unfold zldA
    rw [h1]
    show P (cond (zisA w) (K (w :: s)) none)
    rw [h3]
    exact hk _ _ (aSR_co hs) e
  · cases e
set_option maxRecDepth 100000 in
theorem a_ldJ_s {k : aSt → Bool} {K : List Value → Option zR} {i : Nat} (hl : aLR V als ls) (hs : aSR V a s) (hk : ∀ a s, aSR V a s → k a = true → P (K s)) (e : a_ldJ k als i a = true) : P (zldJ K ls i s) := by
  unfold a_ldJ at e
  rw [agt_eq] at e
  split at e
  · rename_i v hc
    obtain ⟨w, h1, h2⟩ := aLR_at hl hc
    have h2 : w = _ := h2
    subst h2
    unfold zldJ
    rw [h1]
    exact hk _ _ (aSR_co hs) e
  · cases e
set_option maxRecDepth 100000 in
theorem a_stI_s {k : aLs → aSt → Bool} {K : zLs → List Value → Option zR} {i : Nat} (hl : aLR V als ls) (hs : aSR V a s) (hk : ∀ l l' a s, aLR V l l' → aSR V a s → k l a = true → P (K l' s)) (e : a_stI k als i a = true) : P (zstI K ls i s) := by
  unfold a_stI at e
  split at e
  · obtain ⟨x, r, h1, h2, h3⟩ := aSR_i hs
    subst h1
    rw [ast_eq] at e
    exact hk _ _ _ _ (ast_si (h2) hl) h3 e
  · cases e
set_option maxRecDepth 100000 in
theorem a_stA_s {k : aLs → aSt → Bool} {K : zLs → List Value → Option zR} {i : Nat} (hl : aLR V als ls) (hs : aSR V a s) (hk : ∀ l l' a s, aLR V l l' → aSR V a s → k l a = true → P (K l' s)) (e : a_stA k als i a = true) : P (zstA K ls i s) := by
  unfold a_stA at e
  split at e
  · obtain ⟨r, h1, h3⟩ := aSR_o hs
    subst h1
    rw [ast_eq] at e
    exact hk _ _ _ _ (ast_so hl) h3 e
  · obtain ⟨r, h1, h3⟩ := aSR_o hs
    subst h1
    rw [ast_eq] at e
    exact hk _ _ _ _ (ast_so hl) h3 e
  · cases e
set_option maxRecDepth 100000 in
theorem azb_lit {c : Nat} {x : Int32} (hc : Nat.blt c 4294967296 = true) (hr : arel V c x) : x.toInt + 2147483648 = (c : Int) := hr.1 (abl.mp hc)
set_option maxRecDepth 100000 in
theorem aadd {c d : Nat} {x y : Int32} (h1 : x.toInt + 2147483648 = (c : Int)) (h2 : y.toInt + 2147483648 = (d : Int)) : (x + y).toInt + 2147483648 = (((c + d + 2147483648) % 4294967296 : Nat) : Int) := by
  have l1 := alo x
  have l2 := alo y
  rw [Int32.toInt_add, Int.bmod_def]
  split <;> omega
set_option maxRecDepth 100000 in
theorem asub {c d : Nat} {x y : Int32} (h1 : x.toInt + 2147483648 = (c : Int)) (h2 : y.toInt + 2147483648 = (d : Int)) : (x - y).toInt + 2147483648 = (((c + 6442450944 - d) % 4294967296 : Nat) : Int) := by
  have l1 := alo x
  have l2 := alo y
  rw [Int32.toInt_sub, Int.bmod_def]
  split <;> omega
set_option maxRecDepth 100000 in
theorem aze_i (z : Int32) : z.toInt + 2147483648 = ((aze z : Nat) : Int) := by
  have l1 := alo z
  unfold aze
  omega
set_option maxRecDepth 100000 in
theorem a_inc_s {k : aLs → Bool} {K : zLs → Option zR} {i : Nat} {z : Int32} (he : aenv V env) (hl : aLR V als ls) (hk : ∀ l l', aLR V l l' → k l = true → P (K l')) (e : a_inc k env als i z = true) : P (zinc K ls i z) := by
  unfold a_inc at e
  rw [agt_eq] at e
  split at e
  · rename_i c hc
    obtain ⟨w, h1, x, h2, h3⟩ := aLR_at hl hc
    subst h2
    unfold zinc
    rw [h1]
    obtain ⟨c', h4, e⟩ := ares_s he h3 e
    cases h5 : Nat.blt c' 4294967296 with
    | true =>
      rw [h5, cond_true, afo_eq, ast_eq] at e
      exact hk _ _ (ast_si (arel_of (aadd (azb_lit h5 h4) (aze_i z))) hl) e
    | false =>
      rw [h5, cond_false, ast_eq] at e
      exact hk _ _ (ast_si (arel_top V _) hl) e
  · cases e
set_option maxRecDepth 100000 in
theorem a_b2_s {k : aSt → Bool} {K : List Value → Option zR} {g : Nat → Nat → Nat} {f : Int32 → Int32 → Int32} (hg : ∀ (c d : Nat) (x y : Int32), x.toInt + 2147483648 = (c : Int) → y.toInt + 2147483648 = (d : Int) → arel V (g c d) (f x y)) (he : aenv V env) (hs : aSR V a s) (hk : ∀ a s, aSR V a s → k a = true → P (K s)) (e : a_b2 k env g a = true) : P (zb2 K f s) := by
  unfold a_b2 at e
  split at e
  · obtain ⟨y, r, h1, h2, h3⟩ := aSR_i hs
    subst h1
    obtain ⟨x, r, h1, h4, h5⟩ := aSR_i h3
    subst h1
    obtain ⟨c, h6, e⟩ := ares_s he h4 e
    obtain ⟨d, h7, e⟩ := ares_s he h2 e
    cases h8 : (Nat.blt c 4294967296 && Nat.blt d 4294967296) with
    | true =>
      rw [h8, cond_true, afo_eq] at e
      rw [Bool.and_eq_true] at h8
      exact hk _ _ (aSR_ci (hg _ _ _ _ (azb_lit h8.1 h6) (azb_lit h8.2 h7)) h5) e
    | false =>
      rw [h8, cond_false] at e
      exact hk _ _ (aSR_ci (arel_top V _) h5) e
  · cases e
set_option maxRecDepth 100000 in
theorem aslow (f : Int32 → Int32 → Int32) : ∀ c d x y, x.toInt + 2147483648 = ((c : Nat) : Int) → y.toInt + 2147483648 = ((d : Nat) : Int) → arel V (aze (f (azb c) (azb d))) (f x y) := by
  intro c d x y h1 h2
  rw [azb_of h1, azb_of h2]
  exact arel_enc V _
set_option maxRecDepth 100000 in
theorem a_and_s (hV : aOK E V) {k : aSt → Bool} {K : List Value → Option zR} (he : aenv V env) (hs : aSR V a s) (hk : ∀ a s, aSR V a s → k a = true → P (K s)) (e : a_and k env a = true) : P (zb2 K (fun a b => a &&& b) s) := by
  unfold a_and at e
  split at e
  · rename_i b c r
    cases h0 : (Nat.beq c 4294967296 && Nat.beq b 2147483711) with
    | false =>
      rw [h0, cond_false] at e
      exact a_b2_s (aslow fun a b => a &&& b) he hs hk e
    | true =>
      rw [h0, cond_true] at e
      rw [Bool.and_eq_true] at h0
      have h6 := abq h0.1
      have h7 := abq h0.2
      subst h6
      subst h7
      obtain ⟨y, r, h1, h2, h3⟩ := aSR_i hs
      subst h1
      obtain ⟨x, r, h1, h4, h5⟩ := aSR_i h3
      subst h1
      refine hk _ _ (aSR_ci (?_) h5) e
      have e1 : x = E.2 0 := (h4.2 (by decide) (by decide)).trans (hV.1 0 (by decide))
      have e2 : y = 63 := Int32.toInt_inj.mp (by
        have := h2.1 (by decide)
        have h9 : (63 : Int32).toInt = 63 := by decide
        omega)
      rw [e1, e2]
      show arel V 30064771072 (E.2 0 &&& 63)
      rw [← hV.2]
      exact arel_var V (i := 6) (by decide)
  · cases e
set_option maxRecDepth 100000 in
theorem a_l2_s {k : aSt → Bool} {K : List Value → Option zR} {f : Int64 → Int64 → Int64} (hs : aSR V a s) (hk : ∀ a s, aSR V a s → k a = true → P (K s)) (e : a_l2 k f a = true) : P (zl2 K f s) := by
  unfold a_l2 at e
  split at e
  · obtain ⟨r, h1, h3⟩ := aSR_o hs
    subst h1
    obtain ⟨r, h1, h4⟩ := aSR_o h3
    subst h1
    exact hk _ _ (aSR_co h4) e
  · cases e
set_option maxRecDepth 100000 in
theorem ale_iff (x y : Int32) : x ≤ y ↔ ¬ y < x := by
  rw [Int32.le_iff_toInt_le, Int32.lt_iff_toInt_lt]
  omega
set_option maxRecDepth 100000 in
theorem a_if1_s {k : aEn → Nat → aSt → Bool} {K : Nat → List Value → Option zR} {c : ClassFile.Cond} {t p : Nat} (he : aenv V env) (hs : aSR V a s) (hk : ∀ env a s p, aenv V env → aSR V a s → k env p a = true → P (K p s)) (e : a_if1 k env c t p a = true) : P (zif1 K c t p s) := by
  unfold a_if1 at e
  split at e
  · obtain ⟨x, r, h1, h2, h3⟩ := aSR_i hs
    subst h1
    obtain ⟨c', h4, e⟩ := ares_s he h2 e
    have h0 := arel0 V
    unfold zif1
    cases c with
    | eq =>
      simp only at e ⊢
      have q := aeq_s he h4 h0 e
      split
      · rename_i hc
        obtain ⟨env', he', e'⟩ := q.1 hc
        exact hk _ _ _ _ he' h3 e'
      · rename_i hc
        obtain ⟨env', he', e'⟩ := q.2 hc
        exact hk _ _ _ _ he' h3 e'
    | ne =>
      simp only at e ⊢
      have q := aeq_s he h4 h0 e
      split
      · rename_i hc
        obtain ⟨env', he', e'⟩ := q.1 hc
        exact hk _ _ _ _ he' h3 e'
      · rename_i hc
        obtain ⟨env', he', e'⟩ := q.2 hc
        exact hk _ _ _ _ he' h3 e'
    | lt =>
      simp only at e ⊢
      have q := alt_s he h4 h0 e
      split
      · rename_i hc
        obtain ⟨env', he', e'⟩ := q.1 hc
        exact hk _ _ _ _ he' h3 e'
      · rename_i hc
        obtain ⟨env', he', e'⟩ := q.2 hc
        exact hk _ _ _ _ he' h3 e'
    | ge =>
      simp only at e ⊢
      have q := alt_s he h4 h0 e
      by_cases hc : x < 0
      · rw [if_neg (fun z => (ale_iff 0 x).mp z hc)]
        obtain ⟨env', he', e'⟩ := q.1 hc
        exact hk _ _ _ _ he' h3 e'
      · rw [if_pos ((ale_iff 0 x).mpr hc)]
        obtain ⟨env', he', e'⟩ := q.2 hc
        exact hk _ _ _ _ he' h3 e'
    | gt =>
      simp only at e ⊢
      have q := alt_s he h0 h4 e
      split
      · rename_i hc
        obtain ⟨env', he', e'⟩ := q.1 hc
        exact hk _ _ _ _ he' h3 e'
      · rename_i hc
        obtain ⟨env', he', e'⟩ := q.2 hc
        exact hk _ _ _ _ he' h3 e'
    | le =>
      simp only at e ⊢
      have q := alt_s he h0 h4 e
      by_cases hc : 0 < x
      · rw [if_neg (fun z => (ale_iff x 0).mp z hc)]
        obtain ⟨env', he', e'⟩ := q.1 hc
        exact hk _ _ _ _ he' h3 e'
      · rw [if_pos ((ale_iff x 0).mpr hc)]
        obtain ⟨env', he', e'⟩ := q.2 hc
        exact hk _ _ _ _ he' h3 e'
  · cases e
set_option maxRecDepth 100000 in
theorem a_if2_s {k : aEn → Nat → aSt → Bool} {K : Nat → List Value → Option zR} {c : ClassFile.Cond} {t p : Nat} (he : aenv V env) (hs : aSR V a s) (hk : ∀ env a s p, aenv V env → aSR V a s → k env p a = true → P (K p s)) (e : a_if2 k env c t p a = true) : P (zif2 K c t p s) := by
  unfold a_if2 at e
  split at e
  · obtain ⟨y, r, h1, h2, h3⟩ := aSR_i hs
    subst h1
    obtain ⟨x, r, h1, h4, h5⟩ := aSR_i h3
    subst h1
    obtain ⟨cx, h6, e⟩ := ares_s he h4 e
    obtain ⟨cy, h7, e⟩ := ares_s he h2 e
    unfold zif2
    cases c with
    | eq =>
      simp only at e ⊢
      have q := aeq_s he h6 h7 e
      split
      · rename_i hc
        obtain ⟨env', he', e'⟩ := q.1 hc
        exact hk _ _ _ _ he' h5 e'
      · rename_i hc
        obtain ⟨env', he', e'⟩ := q.2 hc
        exact hk _ _ _ _ he' h5 e'
    | ne =>
      simp only at e ⊢
      have q := aeq_s he h6 h7 e
      split
      · rename_i hc
        obtain ⟨env', he', e'⟩ := q.1 hc
        exact hk _ _ _ _ he' h5 e'
      · rename_i hc
        obtain ⟨env', he', e'⟩ := q.2 hc
        exact hk _ _ _ _ he' h5 e'
    | lt =>
      simp only at e ⊢
      have q := alt_s he h6 h7 e
      split
      · rename_i hc
        obtain ⟨env', he', e'⟩ := q.1 hc
        exact hk _ _ _ _ he' h5 e'
      · rename_i hc
        obtain ⟨env', he', e'⟩ := q.2 hc
        exact hk _ _ _ _ he' h5 e'
    | ge =>
      simp only at e ⊢
      have q := alt_s he h6 h7 e
      by_cases hc : x < y
      · rw [if_neg (fun z => (ale_iff y x).mp z hc)]
        obtain ⟨env', he', e'⟩ := q.1 hc
        exact hk _ _ _ _ he' h5 e'
      · rw [if_pos ((ale_iff y x).mpr hc)]
        obtain ⟨env', he', e'⟩ := q.2 hc
        exact hk _ _ _ _ he' h5 e'
    | gt =>
      simp only at e ⊢
      have q := alt_s he h7 h6 e
      split
      · rename_i hc
        obtain ⟨env', he', e'⟩ := q.1 hc
        exact hk _ _ _ _ he' h5 e'
      · rename_i hc
        obtain ⟨env', he', e'⟩ := q.2 hc
        exact hk _ _ _ _ he' h5 e'
    | le =>
      simp only at e ⊢
      have q := alt_s he h7 h6 e
      by_cases hc : y < x
      · rw [if_neg (fun z => (ale_iff x y).mp z hc)]
        obtain ⟨env', he', e'⟩ := q.1 hc
        exact hk _ _ _ _ he' h5 e'
      · rw [if_pos ((ale_iff x y).mpr hc)]
        obtain ⟨env', he', e'⟩ := q.2 hc
        exact hk _ _ _ _ he' h5 e'
  · cases e
set_option maxRecDepth 100000 in
theorem a_nul_s {k : Nat → aSt → Bool} {K : Nat → List Value → Option zR} {t p : Nat} (hs : aSR V a s) (hk : ∀ a s p, aSR V a s → k p a = true → P (K p s)) (e : a_nul k t p a = true) : P (znul K t p s) := by
  unfold a_nul at e
  split at e
  · obtain ⟨r, h1, h3⟩ := aSR_o hs
    subst h1
    exact hk _ _ _ h3 e
  · obtain ⟨r, h1, h3⟩ := aSR_o hs
    subst h1
    exact hk _ _ _ h3 e
  · cases e
set_option maxRecDepth 100000 in
theorem a_get_s {k : aSt → Bool} {K : List Value → Option zR} {ci fk : Nat} (hh : aHR V G ah h) (hs : aSR V a s) (hk : ∀ a s, aSR V a s → k a = true → P (K s)) (e : a_get k ah ci fk a = true) : P (zget K h ci fk s) := by
  unfold a_get at e
  split at e
  · obtain ⟨r, h1, h3⟩ := aSR_o hs
    subst h1
    split at e
    · rename_i c sl t hg
      obtain ⟨h4, h5⟩ := hh.1 _ _ _ hg (by intro z; cases z)
      obtain ⟨h6, e⟩ := acnd e
      unfold zget
      simp only
      rw [h4]
      simp only
      rw [h6, cond_true]
      rw [agt_eq] at e
      split at e <;> rename_i hz
      · rw [hz]
        rw [afo_eq] at e
        exact hk _ _ (aSR_ci (h5 fk) h3) e
      · rw [hz]
        exact hk _ _ (aSR_co h3) e
      · rw [hz]
        exact hk _ _ (aSR_co h3) e
      · cases e
    · cases e
  · cases e
set_option maxRecDepth 100000 in
theorem a_bz_s {z : Int32} {cy : Nat} {y : Int32} {r : Bool} (he : aenv V env) (hy : arel V cy y) (e : a_bz env z cy r = true) {R : Option zR} : r = true ∧ (if z = 0 then R else zc01 y R) = R := by
  unfold a_bz at e
  cases h0 : Nat.beq (aze z) 2147483648 with
  | true =>
    rw [h0, cond_true] at e
    have h1 := abq h0
    have h2 := aze_i z
    have h3 : z = 0 := Int32.toInt_inj.mp (by
      have h9 : (0 : Int32).toInt = 0 := by decide
      omega)
    exact ⟨e, by rw [if_pos h3]⟩
  | false =>
    rw [h0, cond_false] at e
    obtain ⟨c, h1, e⟩ := ares_s he hy e
    obtain ⟨h2, e⟩ := acnd e
    refine ⟨e, ?_⟩
    have h3 : zc01 y R = R := by
      rw [Bool.or_eq_true] at h2
      unfold zc01
      rcases h2 with h2 | h2
      · have h4 := abq h2
        subst h4
        rw [if_pos (arel_eq h1 (by decide) (arel0 V))]
      · have h4 := abq h2
        subst h4
        have h5 : y = 1 := arel_eq h1 (by decide) (arel_of (by decide))
        subst h5
        rfl
    rw [h3]
    split <;> rfl
set_option maxRecDepth 100000 in
theorem a_put_s {k : aSt → aHp → Bool} {K : List Value → zH → Option zR} {ci fk : Nat} {z : Int32} (he : aenv V env) (hh : aHR V G ah h) (hs : aSR V a s) (hk : ∀ a s ah h, aHR V G ah h → aSR V a s → k a ah = true → P (K s h)) (e : a_put k env ah ci fk z a = true) : P (zput K h ci fk z s) := by
  unfold a_put at e
  split at e
  · obtain ⟨y, r, h1, hy, h3⟩ := aSR_i hs
    subst h1
    obtain ⟨r, h1, h3x⟩ := aSR_o h3
    subst h1
    split at e
    · rename_i c sl t hg
      obtain ⟨h4, h5⟩ := hh.1 _ _ _ hg (by intro z; cases z)
      obtain ⟨h6, e⟩ := acnd e
      unfold zput
      simp only
      rw [h4]
      simp only
      rw [h6, cond_true]
      rw [agt_eq] at e
      split at e
      · rename_i hz
        rw [hz]
        simp only
        obtain ⟨e, hR⟩ := a_bz_s he hy e (R := K r (zsetI h _ (upd (h.2.1 _) fk y)))
        rw [hR]
        obtain ⟨t', ht, e⟩ := asI_s e
        obtain ⟨cs, hc, e⟩ := aI_s (f := upd (h.2.1 _) fk y) hh hg (by intro z; cases z) (fun j => by
          rw [ht]
          unfold upd
          by_cases hj : j = fk
          · rw [if_pos hj, if_pos hj]; exact hy
          · rw [if_neg hj, if_neg hj]; exact h5 j) e
        rw [a_mk_eq] at e
        exact hk _ _ _ _ hc h3x e
      · cases e
    · cases e
  · obtain ⟨r, h1, h3⟩ := aSR_o hs
    subst h1
    obtain ⟨r, h1, h3x⟩ := aSR_o h3
    subst h1
    split at e
    · rename_i c sl t hg
      obtain ⟨h4, h5⟩ := hh.1 _ _ _ hg (by intro z; cases z)
      obtain ⟨h6, e⟩ := acnd e
      unfold zput
      simp only
      rw [h4]
      simp only
      rw [h6, cond_true]
      rw [agt_eq] at e
      split at e
      · rename_i hz
        rw [hz]
        simp only
        rw [asd_eq, asl_zset _ _ _ _ (zat_lt hz)] at e
        obtain ⟨cs, hc, e⟩ := aS_s hh hg (by intro z; cases z) (by intro z; cases z) e
        rw [a_mk_eq] at e
        exact hk _ _ _ _ hc h3x e
      · cases e
    · cases e
  · cases e
set_option maxRecDepth 100000 in
theorem a_ix_s {cj n : Nat} {j : Int32} {k : Nat → Bool} (he : aenv V env) (hj : arel V cj j) (e : a_ix env cj n k = true) : k j.toNatClampNeg = true ∧ 0 ≤ j.toInt ∧ j.toInt < (n : Int) := by
  unfold a_ix at e
  obtain ⟨c, h1, e⟩ := ares_s he hj e
  obtain ⟨h2, e⟩ := acnd e
  rw [Bool.and_eq_true, Bool.and_eq_true, abe, abl, abl] at h2
  have h3 := h1.1 h2.2
  rw [afo_eq] at e
  have h4 : j.toNatClampNeg = c - 2147483648 := by
    rw [← Int32.toNat_toInt]
    omega
  rw [h4]
  exact ⟨e, by omega, by omega⟩
set_option maxRecDepth 100000 in
theorem zck_ok {j : Int32} {n : Nat} {r : Option zR} (h0 : 0 ≤ j.toInt) (h1 : j.toInt < (n : Int)) : zck j n r = r := by
  unfold zck
  rw [if_neg, if_neg]
  · rw [← Int32.toNat_toInt]
    omega
  · rw [Int32.lt_iff_toInt_lt]
    have h9 : (0 : Int32).toInt = 0 := by decide
    omega
set_option maxRecDepth 100000 in
theorem a_arr_s {t c : Nat} {k : Nat → List (Option Nat) → aT → Bool} (hh : aHR V G ah h) (e : a_arr ah t c k = true) : ∃ n rf tr, aget ah.1 c = some (.inl (t, n, rf), tr) ∧ zat h.1 c = some (.inl (t, n, rf)) ∧ (∀ j, arel V (agI tr j) (h.2.1 c j)) ∧ k n rf tr = true ∧ ∀ K, zarr h t c K = K n := by
  unfold a_arr at e
  split at e
  · rename_i t' n rf tr hg
    obtain ⟨h4, h5⟩ := hh.1 _ _ _ hg (by intro z; cases z)
    obtain ⟨h6, e9⟩ := acnd e
    have h7 := abq h6
    subst h7
    refine ⟨n, rf, tr, hg, h4, h5, e9, fun K => ?_⟩
    unfold zarr
    rw [h4]
    show cond (Nat.beq t' t') (K n) none = K n
    rw [Nat.beq_refl]
    rfl
  · cases e
set_option maxRecDepth 100000 in
theorem a_ald_s (hV : aOK E V) {N : Nat} {k : aSt → Bool} {K : List Value → Option zR} (hN : Nat.blt N 2147483648 = true → E.1 = N) (he : aenv V env) (hh : aHR V G ah h) (hs : aSR V a s) (hk : ∀ a s, aSR V a s → k a = true → P (K s)) (e : a_ald N k env ah a = true) : P (zald E K h s) := by
  unfold a_ald at e
  split at e
  · obtain ⟨j, r, h1, hj, h3⟩ := aSR_i hs
    subst h1
    obtain ⟨r, h1, h3x⟩ := aSR_o h3
    subst h1
    obtain ⟨n, rf, tr, -, -, h5, e, hK⟩ := a_arr_s hh e
    obtain ⟨e, h6, h7⟩ := a_ix_s he hj e
    rw [afo_eq] at e
    unfold zald
    simp only
    rw [hK, zck_ok h6 h7]
    exact hk _ _ (aSR_ci (h5 _) h3x) e
  · obtain ⟨j, r, h1, hj, h3⟩ := aSR_i hs
    subst h1
    obtain ⟨r, h1, h3x⟩ := aSR_o h3
    subst h1
    obtain ⟨h0, e⟩ := acnd e
    obtain ⟨e, h6, h7⟩ := a_ix_s he hj e
    rw [afo_eq] at e
    obtain ⟨h8, e⟩ := acnd e
    unfold zald
    simp only
    rw [hN h0, zck_ok h6 h7]
    have h9 := abl.mp h8
    refine hk _ _ (aSR_ci (?_) h3x) e
    have h10 := arel_var V (i := j.toNatClampNeg) (by omega)
    rw [hV.1 _ h9] at h10
    exact h10
  · cases e
set_option maxRecDepth 100000 in
theorem a_aldB_s {k : aSt → Bool} {K : List Value → Option zR} (he : aenv V env) (hh : aHR V G ah h) (hs : aSR V a s) (hk : ∀ a s, aSR V a s → k a = true → P (K s)) (e : a_aldB k env ah a = true) : P (zaldB K h s) := by
  unfold a_aldB at e
  split at e
  · obtain ⟨j, r, h1, hj, h3⟩ := aSR_i hs
    subst h1
    obtain ⟨r, h1, h3x⟩ := aSR_o h3
    subst h1
    obtain ⟨n, rf, tr, -, -, h5, e, hK⟩ := a_arr_s hh e
    obtain ⟨e, h6, h7⟩ := a_ix_s he hj e
    rw [afo_eq] at e
    unfold zaldB
    simp only
    rw [hK, zck_ok h6 h7]
    exact hk _ _ (aSR_ci (h5 _) h3x) e
  · cases e
set_option maxRecDepth 100000 in
theorem a_aldJ_s {k : aSt → Bool} {K : List Value → Option zR} (he : aenv V env) (hh : aHR V G ah h) (hs : aSR V a s) (hk : ∀ a s, aSR V a s → k a = true → P (K s)) (e : a_aldJ k env ah a = true) : P (zaldJ K h s) := by
  unfold a_aldJ at e
  split at e
  · obtain ⟨j, r, h1, hj, h3⟩ := aSR_i hs
    subst h1
    obtain ⟨r, h1, h3x⟩ := aSR_o h3
    subst h1
    obtain ⟨n, rf, tr, -, -, h5, e, hK⟩ := a_arr_s hh e
    obtain ⟨e, h6, h7⟩ := a_ix_s he hj e
    unfold zaldJ
    simp only
    rw [hK, zck_ok h6 h7]
    split at e
    · rename_i m J c q hq
      have h9 := hh.2.2
      rw [hq] at h9
      rw [h9.2.1]
      exact hk _ _ (aSR_co h3x) e
    · cases e
  · cases e
set_option maxRecDepth 100000 in
theorem a_aldA_s {k : aSt → Bool} {K : List Value → Option zR} (he : aenv V env) (hh : aHR V G ah h) (hs : aSR V a s) (hk : ∀ a s, aSR V a s → k a = true → P (K s)) (e : a_aldA k env ah a = true) : P (zaldA K h s) := by
  unfold a_aldA at e
  split at e
  · obtain ⟨j, r, h1, hj, h3⟩ := aSR_i hs
    subst h1
    obtain ⟨r, h1, h3x⟩ := aSR_o h3
    subst h1
    split at e
    · rename_i t n rf tr hg
      obtain ⟨h4, h5⟩ := hh.1 _ _ _ hg (by intro z; cases z)
      obtain ⟨h6, e⟩ := acnd e
      obtain ⟨e, h7, h8⟩ := a_ix_s he hj e
      unfold zaldA
      simp only
      rw [h4]
      simp only
      rw [h6, cond_true, zck_ok h7 h8]
      rw [agt_eq] at e
      split at e <;> rename_i hz
      · rw [hz]
        exact hk _ _ (aSR_co h3x) e
      · rw [hz]
        exact hk _ _ (aSR_co h3x) e
      · cases e
    · cases e
  · cases e
set_option maxRecDepth 100000 in
theorem a_ast_s {k : aSt → aHp → Bool} {K : List Value → zH → Option zR} (he : aenv V env) (hh : aHR V G ah h) (hs : aSR V a s) (hk : ∀ a s ah h, aHR V G ah h → aSR V a s → k a ah = true → P (K s h)) (e : a_ast k env ah a = true) : P (zast K h s) := by
  unfold a_ast at e
  split at e
  · obtain ⟨y, r, h1, hy, h3⟩ := aSR_i hs
    subst h1
    obtain ⟨j, r, h1, hj, h3x⟩ := aSR_i h3
    subst h1
    obtain ⟨r, h1, h3xx⟩ := aSR_o h3x
    subst h1
    split at e
    · rename_i t n rf tr hg
      obtain ⟨h4, h5⟩ := hh.1 _ _ _ hg (by intro z; cases z)
      obtain ⟨h6, e⟩ := acnd e
      obtain ⟨e, h7, h8⟩ := a_ix_s he hj e
      unfold zast zarr
      simp only
      rw [h4]
      simp only
      rw [h6, cond_true, zck_ok h7 h8]
      obtain ⟨t', ht, e⟩ := asI_s e
      obtain ⟨cs, hc, e⟩ := aI_s (f := upd (h.2.1 _) j.toNatClampNeg y) hh hg (by intro z; cases z) (fun i => by
        rw [ht]
        unfold upd
        by_cases hj : i = j.toNatClampNeg
        · rw [if_pos hj, if_pos hj]; exact hy
        · rw [if_neg hj, if_neg hj]; exact h5 i) e
      rw [a_mk_eq] at e
      exact hk _ _ _ _ hc h3xx e
    · cases e
  · cases e
set_option maxRecDepth 100000 in
theorem a_by_s {cx : Nat} {x : Int32} {k : Nat → Bool} (he : aenv V env) (hx : arel V cx x) (e : a_by env cx k = true) : ∃ c, arel V c x.toInt8.toInt32 ∧ k c = true := by
  unfold a_by at e
  obtain ⟨c, h1, e⟩ := ares_s he hx e
  cases h2 : Nat.blt c 4294967296 with
  | true =>
    rw [h2, cond_true, afo_eq] at e
    refine ⟨_, ?_, e⟩
    rw [azb_of (azb_lit h2 h1)]
    exact arel_enc V _
  | false =>
    rw [h2, cond_false] at e
    exact ⟨_, arel_top V _, e⟩
set_option maxRecDepth 100000 in
theorem a_astB_s {k : aSt → aHp → Bool} {K : List Value → zH → Option zR} (he : aenv V env) (hh : aHR V G ah h) (hs : aSR V a s) (hk : ∀ a s ah h, aHR V G ah h → aSR V a s → k a ah = true → P (K s h)) (e : a_astB k env ah a = true) : P (zastB K h s) := by
  unfold a_astB at e
  split at e
  · obtain ⟨y, r, h1, hy, h3⟩ := aSR_i hs
    subst h1
    obtain ⟨j, r, h1, hj, h3x⟩ := aSR_i h3
    subst h1
    obtain ⟨r, h1, h3xx⟩ := aSR_o h3x
    subst h1
    split at e
    · rename_i t n rf tr hg
      obtain ⟨h4, h5⟩ := hh.1 _ _ _ hg (by intro z; cases z)
      obtain ⟨h6, e⟩ := acnd e
      obtain ⟨e, h7, h8⟩ := a_ix_s he hj e
      obtain ⟨c, hc9, e⟩ := a_by_s he hy e
      unfold zastB zarr
      simp only
      rw [h4]
      simp only
      rw [h6, cond_true, zck_ok h7 h8]
      obtain ⟨t', ht, e⟩ := asI_s e
      obtain ⟨cs, hc, e⟩ := aI_s (f := upd (h.2.1 _) j.toNatClampNeg y.toInt8.toInt32) hh hg (by intro z; cases z) (fun i => by
        rw [ht]
        unfold upd
        by_cases hj : i = j.toNatClampNeg
        · rw [if_pos hj, if_pos hj]; exact hc9
        · rw [if_neg hj, if_neg hj]; exact h5 i) e
      rw [a_mk_eq] at e
      exact hk _ _ _ _ hc h3xx e
    · cases e
  · cases e
set_option maxRecDepth 100000 in
theorem aJ_s (hh : aHR V G ah h) {m c q : Nat} {J : Nat → Nat → Int64} (hq : ah.2 = some (m, J, c, q)) {a i : Nat} {x : Int64} : aHR V G (ah.1, some (m, zrow J a (vp_updL (J a) i x), c, q)) (zsetJ h a (vp_updL (h.2.2.1 a) i x)) := by
  have h9 := hh.2.2
  rw [hq] at h9
  refine ⟨hh.1, hh.2.1, h9.1, ?_, h9.2.2⟩
  show zrow h.2.2.1 a (vp_updL (h.2.2.1 a) i x) = zrow J a (vp_updL (J a) i x)
  rw [h9.2.1]
set_option maxRecDepth 100000 in
theorem a_astJ_s {k : aSt → aHp → Bool} {K : List Value → zH → Option zR} (he : aenv V env) (hh : aHR V G ah h) (hs : aSR V a s) (hk : ∀ a s ah h, aHR V G ah h → aSR V a s → k a ah = true → P (K s h)) (e : a_astJ k env ah a = true) : P (zastJ K h s) := by
  unfold a_astJ at e
  split at e
  · obtain ⟨r, h1, h3⟩ := aSR_o hs
    subst h1
    obtain ⟨j, r, h1, hj, h3x⟩ := aSR_i h3
    subst h1
    obtain ⟨r, h1, h3xx⟩ := aSR_o h3x
    subst h1
    obtain ⟨n, rf, tr, -, -, h5, e, hK⟩ := a_arr_s hh e
    obtain ⟨e, h6, h7⟩ := a_ix_s he hj e
    unfold zastJ
    simp only
    rw [hK, zck_ok h6 h7]
    split at e
    · rename_i m J c q hq
      have h9 := hh.2.2
      rw [hq] at h9
      exact hk _ _ _ _ (aJ_s hh hq) h3xx (by cases ah; exact e)
    · cases e
  · cases e
set_option maxRecDepth 100000 in
theorem a_astA_s {k : aSt → aHp → Bool} {K : List Value → zH → Option zR} (he : aenv V env) (hh : aHR V G ah h) (hs : aSR V a s) (hk : ∀ a s ah h, aHR V G ah h → aSR V a s → k a ah = true → P (K s h)) (e : a_astA k env ah a = true) : P (zastA K h s) := by
  unfold a_astA at e
  split at e
  · obtain ⟨r, h1, h3⟩ := aSR_o hs
    subst h1
    obtain ⟨j, r, h1, hj, h3x⟩ := aSR_i h3
    subst h1
    obtain ⟨r, h1, h3xx⟩ := aSR_o h3x
    subst h1
    split at e
    · rename_i t n rf tr hg
      obtain ⟨h4, h5⟩ := hh.1 _ _ _ hg (by intro z; cases z)
      obtain ⟨h6, e⟩ := acnd e
      obtain ⟨e, h7, h8⟩ := a_ix_s he hj e
      rw [agt_eq] at e
      split at e
      · rename_i hz
        split at e
        · rename_i c sl tr2 hg2
          obtain ⟨h9, -⟩ := hh.1 _ _ _ hg2 (by intro z; cases z)
          obtain ⟨h10, e⟩ := acnd e
          unfold zastA
          simp only
          rw [h4]
          simp only
          rw [h6, cond_true, zck_ok h7 h8, h9]
          simp only
          rw [h10, cond_true]
          rw [asd_eq, asl_zset _ _ _ _ (zat_lt hz)] at e
          obtain ⟨cs, hc, e⟩ := aS_s hh hg (by intro z; cases z) (by intro z; cases z) e
          rw [a_mk_eq] at e
          exact hk _ _ _ _ hc h3xx e
        · cases e
      · cases e
    · cases e
  · cases e
set_option maxRecDepth 100000 in
theorem aofN {n : Nat} (h : n < 2147483648) : arel V (n + 2147483648) (Int32.ofNat n) := arel_of (by rw [Int32.toInt_ofNat_of_lt h]; omega)
set_option maxRecDepth 100000 in
theorem a_len_s {N : Nat} {k : aSt → Bool} {K : List Value → Option zR} (hN : Nat.blt N 2147483648 = true → E.1 = N) (hh : aHR V G ah h) (hs : aSR V a s) (hk : ∀ a s, aSR V a s → k a = true → P (K s)) (e : a_len N k ah a = true) : P (zalen E K h s) := by
  unfold a_len at e
  split at e
  · obtain ⟨r, h1, h3⟩ := aSR_o hs
    subst h1
    split at e
    · rename_i t n rf tr hg
      obtain ⟨h4, h5⟩ := hh.1 _ _ _ hg (by intro z; cases z)
      obtain ⟨h6, e⟩ := acnd e
      rw [afo_eq] at e
      unfold zalen
      simp only
      rw [h4]
      exact hk _ _ (aSR_ci (aofN (abl.mp h6)) h3) e
    · cases e
  · obtain ⟨r, h1, h3⟩ := aSR_o hs
    subst h1
    obtain ⟨h6, e⟩ := acnd e
    rw [afo_eq] at e
    unfold zalen
    simp only
    rw [hN h6]
    exact hk _ _ (aSR_ci (aofN (abl.mp h6)) h3) e
  · cases e
set_option maxRecDepth 100000 in
theorem a_newa_s {k : aSt → aHp → Bool} {K : List Value → zH → Option zR} {t : Nat} (he : aenv V env) (hh : aHR V G ah h) (hs : aSR V a s) (hk : ∀ a s ah h, aHR V G ah h → aSR V a s → k a ah = true → P (K s h)) (e : a_newa k env ah t a = true) : P (znewa K h t s) := by
  unfold a_newa at e
  split at e
  · obtain ⟨j, r, h1, hj, h3⟩ := aSR_i hs
    subst h1
    obtain ⟨c, h4, e⟩ := ares_s he hj e
    obtain ⟨h5, e⟩ := acnd e
    rw [Bool.and_eq_true, abe, abe] at h5
    have h6 := h4.1 (by omega)
    rw [afo_eq] at e
    have h7 : j.toNatClampNeg = c - 2147483648 := by
      rw [← Int32.toNat_toInt]
      omega
    unfold znewa
    simp only
    rw [if_neg (by
      rw [Int32.lt_iff_toInt_lt]
      have h9 : (0 : Int32).toInt = 0 := by decide
      omega), h7, abe.mpr (show c - 2147483648 ≤ 100000 by omega), cond_true]
    cases h8 : Nat.ble 3 t with
    | true =>
      rw [h8, cond_true, a_rpn_eq] at e
      rw [cond_true]
      obtain ⟨ah', h10, e⟩ := apsh_s hh (by intro z; cases z) e
      exact hk _ _ _ _ h10 (aSR_co h3) e
    | false =>
      rw [h8, cond_false] at e
      rw [cond_false]
      obtain ⟨ah', h10, e⟩ := apsh_s hh (by intro z; cases z) e
      exact hk _ _ _ _ h10 (aSR_co h3) e
  · cases e
set_option maxRecDepth 100000 in
theorem a_cp_s {f : aT} {sp dp : Nat} : ∀ {n : Nat} {t : aT} {k : aT → Bool}, a_cp f sp dp n t k = true → ∃ t', (∀ i, agI t' i = if dp ≤ i ∧ i < dp + n then agI f (sp + (i - dp)) else agI t i) ∧ k t' = true
  | 0, t, k, e => ⟨t, fun i => by rw [if_neg (by omega)], e⟩
  | n + 1, t, k, e => by
    have e : (afo (agI f (sp + n)) fun x => afo (dp + n) fun i => asI t i x fun t' => a_cp f sp dp n t' k) = true := e
    rw [afo_eq, afo_eq] at e
    obtain ⟨t1, h1, e⟩ := asI_s e
    obtain ⟨t2, h2, e⟩ := a_cp_s (n := n) e
    refine ⟨t2, fun i => ?_, e⟩
    rw [h2, h1]
    by_cases h3 : dp ≤ i ∧ i < dp + n
    · rw [if_pos h3, if_pos (by omega)]
    · rw [if_neg h3]
      by_cases h4 : i = dp + n
      · rw [if_pos h4, if_pos (by omega), show i - dp = n by omega]
      · rw [if_neg h4, if_neg (by omega)]
set_option maxRecDepth 100000 in
theorem a_copy_s {k : aSt → aHp → Bool} {K : List Value → zH → Option zR} (he : aenv V env) (hh : aHR V G ah h) (hs : aSR V a s) (hk : ∀ a s ah h, aHR V G ah h → aSR V a s → k a ah = true → P (K s h)) (e : a_copy k env ah a = true) : P (zcopy K h s) := by
  unfold a_copy at e
  split at e
  · obtain ⟨n, r, h1, hn, h3⟩ := aSR_i hs
    subst h1
    obtain ⟨dp, r, h1, hd, h3x⟩ := aSR_i h3
    subst h1
    obtain ⟨r, h1, h3xx⟩ := aSR_o h3x
    subst h1
    obtain ⟨sp, r, h1, hp, h3xxx⟩ := aSR_i h3xx
    subst h1
    obtain ⟨r, h1, h3xxxx⟩ := aSR_o h3xxx
    subst h1
    obtain ⟨na, rfa, ta, -, -, h5, e, hK⟩ := a_arr_s hh e
    split at e
    · rename_i t nb rf tb hg
      obtain ⟨h4, h6⟩ := hh.1 _ _ _ hg (by intro z; cases z)
      obtain ⟨h7, e⟩ := acnd e
      obtain ⟨e, n1, n2⟩ := a_ix_s he hn e
      obtain ⟨e, d1, d2⟩ := a_ix_s he hd e
      obtain ⟨e, p1, p2⟩ := a_ix_s he hp e
      obtain ⟨h8, e⟩ := acnd e
      rw [← asu_s h3xxxx] at h8
      obtain ⟨t', h9, e⟩ := a_cp_s e
      have h0 : (0 : Int32).toInt = 0 := by decide
      unfold zcopy
      simp only
      rw [hK]
      unfold zarr
      rw [h4]
      simp only
      rw [h7, cond_true, if_neg (by rw [Int32.lt_iff_toInt_lt]; omega), if_neg (by rw [Int32.lt_iff_toInt_lt]; omega), if_neg (by rw [Int32.lt_iff_toInt_lt]; omega), h8, cond_true]
      obtain ⟨cs, hc, e⟩ := aI_s (f := va_cpy (h.2.1 _) (h.2.1 _) sp.toNatClampNeg dp.toNatClampNeg n.toNatClampNeg) hh hg (by intro z; cases z) (fun i => by
        rw [h9]
        unfold va_cpy
        by_cases hj : dp.toNatClampNeg ≤ i ∧ i < dp.toNatClampNeg + n.toNatClampNeg
        · rw [if_pos hj, if_pos hj]; exact h5 _
        · rw [if_neg hj, if_neg hj]; exact h6 i) e
      rw [a_mk_eq] at e
      exact hk _ _ _ _ hc h3xxxx e
    · cases e
  · cases e
set_option maxRecDepth 100000 in
theorem a_recv_s {stc ci : Nat} {as : aSt} {ss : List Value} {r : Bool} (hh : aHR V G ah h) (hs : aSR V as ss) (e : a_recv ah stc ci as r = true) : r = true ∧ ∀ R, zrecv h stc ci ss R = R := by
  cases stc with
  | succ n => exact ⟨e, fun R => rfl⟩
  | zero =>
    unfold a_recv at e
    simp only at e
    split at e
    · obtain ⟨r, h1, h3⟩ := aSR_o hs
      subst h1
      split at e
      · rename_i c sl t hg
        obtain ⟨h4, h6⟩ := hh.1 _ _ _ hg (by intro z; cases z)
        obtain ⟨h7, e⟩ := acnd e
        refine ⟨e, fun R => ?_⟩
        unfold zrecv
        simp only
        rw [h4]
        simp only
        rw [h7]
        rfl
      · cases e
    · cases e
set_option maxRecDepth 100000 in
theorem a_sw_s {k : aEn → Nat → Bool} {K : Nat → Option zR} {t : Nat} (hk : ∀ env p, aenv V env → k env p = true → P (K p)) : ∀ {l : List (Int32 × Nat)} {env : aEn} {cx : Nat} {x : Int32}, aenv V env → arel V cx x → a_sw k cx t l env = true → P (zsw x l t K)
  | [], env, cx, x, he, hx, e => hk _ _ he e
  | (b, p) :: l, env, cx, x, he, hx, e => by
    have e : aeq env cx (aze b) (fun env => k env p) (a_sw k cx t l) = true := e
    have q := aeq_s he hx (arel_enc V b) e
    unfold zsw
    split
    · rename_i hc
      obtain ⟨env', he', e'⟩ := q.1 hc
      exact hk _ _ he' e'
    · rename_i hc
      obtain ⟨env', he', e'⟩ := q.2 hc
      exact a_sw_s hk he' hx e'
end AOPS
