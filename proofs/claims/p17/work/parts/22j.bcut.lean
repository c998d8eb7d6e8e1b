noncomputable def b_dup (k : bSt → Bool) (st : bSt) : Bool := match st with
  | v :: r => cond (bc1 v) (k (v :: v :: r)) false
  | _ => false
noncomputable def b_dup2 (k : bSt → Bool) (st : bSt) : Bool := match st with
  | v :: u :: r => cond (bc1 v && bc1 u) (k (v :: u :: v :: u :: r)) false
  | _ => false
noncomputable def b_popv (k : bSt → Bool) (st : bSt) : Bool := match st with
  | v :: r => cond (bc1 v) (k r) false
  | _ => false
def bcode : Instr → Nat × Nat × ClassFile.Cond
  | .aload i => (1, i, .eq)
  | .aload_n i => (1, i.val, .eq)
  | .iload i => (2, i, .eq)
  | .iload_n i => (2, i.val, .eq)
  | .getfield _ => (3, 0, .eq)
  | .if_icmp c _ => (4, 0, c)
  | .istore i => (5, i, .eq)
  | .istore_n i => (5, i.val, .eq)
  | .iinc i _ => (6, i, .eq)
  | .goto _ => (7, 0, .eq)
  | .iaload => (8, 0, .eq)
  | .iconst _ => (9, 0, .eq)
  | .bipush _ => (9, 0, .eq)
  | .sipush _ => (9, 0, .eq)
  | .iastore => (10, 0, .eq)
  | .putfield _ => (11, 0, .eq)
  | .ireturn => (12, 0, .eq)
  | .invokevirtual _ => (13, 0, .eq)
  | .iadd => (14, 0, .eq)
  | .invokestatic _ => (15, 0, .eq)
  | .return_ => (16, 0, .eq)
  | .invokespecial _ => (17, 0, .eq)
  | .new _ => (18, 0, .eq)
  | .dup => (19, 0, .eq)
  | .aconst_null => (20, 0, .eq)
  | .ifCond c _ => (21, 0, c)
  | .pop => (22, 0, .eq)
  | .dup2 => (23, 0, .eq)
  | .isub => (24, 0, .eq)
  | .astore i => (25, i, .eq)
  | .astore_n i => (25, i.val, .eq)
  | .arraylength => (26, 0, .eq)
  | .iand => (27, 0, .eq)
  | .tableswitch .. => (28, 0, .eq)
  | .i2l => (29, 0, .eq)
  | .laload => (30, 0, .eq)
  | .lcmp => (31, 0, .eq)
  | .lastore => (32, 0, .eq)
  | .imul => (33, 0, .eq)
  | .idiv => (34, 0, .eq)
  | .irem => (35, 0, .eq)
  | .ishl => (36, 0, .eq)
  | .ishr => (37, 0, .eq)
  | .iushr => (38, 0, .eq)
  | .ixor => (39, 0, .eq)
  | .ior => (40, 0, .eq)
  | .i2b => (41, 0, .eq)
  | .bastore => (42, 0, .eq)
  | .baload => (43, 0, .eq)
  | .aaload => (44, 0, .eq)
  | .ifnull _ => (45, 0, .eq)
  | .ifnonnull _ => (46, 0, .eq)
  | .ldc _ => (47, 0, .eq)
  | .ldc_w _ => (48, 0, .eq)
  | .lload i => (49, i, .eq)
  | .lload_n i => (49, i.val, .eq)
  | .lstore i => (50, i, .eq)
  | .lstore_n i => (50, i.val, .eq)
  | .lconst _ => (51, 0, .eq)
  | .ldc2_w _ => (51, 0, .eq)
  | .ladd => (52, 0, .eq)
  | .lsub => (52, 0, .eq)
  | .lmul => (52, 0, .eq)
  | .land => (52, 0, .eq)
  | .lor => (52, 0, .eq)
  | .ldiv => (53, 0, .eq)
  | .l2i => (54, 0, .eq)
  | _ => (0, 0, .eq)
abbrev bOP : Type := Nat → bSt9 → Option bI → bTb → (bS → Option bV → Bool) → bF → Nat → bS → List bFm → Nat → Nat → Nat → Nat → bLs → bSt → Nat → Nat → Nat → Int32 → Nat → ClassFile.Cond → Bool
noncomputable def bll1 : bOP := fun W sm sc tb fin ih n S fs d mi pc nx ls st a1 a2 a3 z im c => b_ldA (fun s => ih n S fs d mi nx ls s) ls im st
noncomputable def bll2 : bOP := fun W sm sc tb fin ih n S fs d mi pc nx ls st a1 a2 a3 z im c => b_ldI (fun s => ih n S fs d mi nx ls s) ls im st
noncomputable def bll3 : bOP := fun W sm sc tb fin ih n S fs d mi pc nx ls st a1 a2 a3 z im c => b_get tb (fun S s => ih n S fs d mi nx ls s) S a1 a2 st
noncomputable def bll4 : bOP := fun W sm sc tb fin ih n S fs d mi pc nx ls st a1 a2 a3 z im c => b_if2 (fun S p s => afo p fun p => ih n S fs d mi p ls s) S c a1 nx st
noncomputable def bll5 : bOP := fun W sm sc tb fin ih n S fs d mi pc nx ls st a1 a2 a3 z im c => b_stI (fun l s => ih n S fs d mi nx l s) ls im st
noncomputable def bll6 : bOP := fun W sm sc tb fin ih n S fs d mi pc nx ls st a1 a2 a3 z im c => b_inc (fun S l => ih n S fs d mi nx l st) S ls im z
noncomputable def bll7 : bOP := fun W sm sc tb fin ih n S fs d mi pc nx ls st a1 a2 a3 z im c => afo a1 fun p => ih n S fs d mi p ls st
noncomputable def bll8 : bOP := fun W sm sc tb fin ih n S fs d mi pc nx ls st a1 a2 a3 z im c => b_ald tb sc (fun S s => ih n S fs d mi nx ls s) S st
noncomputable def bll9 : bOP := fun W sm sc tb fin ih n S fs d mi pc nx ls st a1 a2 a3 z im c => bfo z.toInt fun c => ih n S fs d mi nx ls (.inl (c, []) :: st)
noncomputable def bll10 : bOP := fun W sm sc tb fin ih n S fs d mi pc nx ls st a1 a2 a3 z im c => b_ast tb W (fun S s => ih n S fs d mi nx ls s) S st
noncomputable def bll11 : bOP := fun W sm sc tb fin ih n S fs d mi pc nx ls st a1 a2 a3 z im c => b_put tb W (fun S s => ih n S fs d mi nx ls s) S a1 a2 z st
noncomputable def bll12 : bOP := fun W sm sc tb fin ih n S fs d mi pc nx ls st a1 a2 a3 z im c => b_ire ih fin S fs mi st
noncomputable def bll13 : bOP := fun W sm sc tb fin ih n S fs d mi pc nx ls st a1 a2 a3 z im c => (match a1 with
    | 0 => b_inv tb W sm ih n S fs d mi pc nx a2 (Nat.beq a3 0) ls st
    | k + 1 => b_pri tb W (fun S s => ih n S fs d mi nx ls s) S (k + 1) st)
noncomputable def bll14 : bOP := fun W sm sc tb fin ih n S fs d mi pc nx ls st a1 a2 a3 z im c => b_b2 bo_add (fun S s => ih n S fs d mi nx ls s) S st
noncomputable def bll15 : bOP := fun W sm sc tb fin ih n S fs d mi pc nx ls st a1 a2 a3 z im c => (match a1 with
    | 0 => b_inv tb W sm ih n S fs d mi pc nx a2 (Nat.beq a3 0) ls st
    | k + 1 => b_pri tb W (fun S s => ih n S fs d mi nx ls s) S (k + 1) st)
noncomputable def bll16 : bOP := fun W sm sc tb fin ih n S fs d mi pc nx ls st a1 a2 a3 z im c => b_rtv ih fin S fs mi st
noncomputable def bll17 : bOP := fun W sm sc tb fin ih n S fs d mi pc nx ls st a1 a2 a3 z im c => (match a1 with
    | 0 => b_inv tb W sm ih n S fs d mi pc nx a2 false ls st
    | k + 1 => b_pri tb W (fun S s => ih n S fs d mi nx ls s) S (k + 1) st)
noncomputable def bll18 : bOP := fun W sm sc tb fin ih n S fs d mi pc nx ls st a1 a2 a3 z im c => b_new ih S fs a1 a2 st
noncomputable def bll19 : bOP := fun W sm sc tb fin ih n S fs d mi pc nx ls st a1 a2 a3 z im c => b_dup (fun s => ih n S fs d mi nx ls s) st
noncomputable def bll20 : bOP := fun W sm sc tb fin ih n S fs d mi pc nx ls st a1 a2 a3 z im c => ih n S fs d mi nx ls (.inr (.inl .null) :: st)
noncomputable def bll21 : bOP := fun W sm sc tb fin ih n S fs d mi pc nx ls st a1 a2 a3 z im c => b_if1 (fun S p s => afo p fun p => ih n S fs d mi p ls s) S c a1 nx st
noncomputable def bll22 : bOP := fun W sm sc tb fin ih n S fs d mi pc nx ls st a1 a2 a3 z im c => b_popv (fun s => ih n S fs d mi nx ls s) st
noncomputable def bll23 : bOP := fun W sm sc tb fin ih n S fs d mi pc nx ls st a1 a2 a3 z im c => b_dup2 (fun s => ih n S fs d mi nx ls s) st
noncomputable def bll24 : bOP := fun W sm sc tb fin ih n S fs d mi pc nx ls st a1 a2 a3 z im c => b_b2 bo_sub (fun S s => ih n S fs d mi nx ls s) S st
noncomputable def bll25 : bOP := fun W sm sc tb fin ih n S fs d mi pc nx ls st a1 a2 a3 z im c => b_stA (fun l s => ih n S fs d mi nx l s) ls im st
noncomputable def bll26 : bOP := fun W sm sc tb fin ih n S fs d mi pc nx ls st a1 a2 a3 z im c => b_len tb sc (fun s => ih n S fs d mi nx ls s) st
noncomputable def bll27 : bOP := fun W sm sc tb fin ih n S fs d mi pc nx ls st a1 a2 a3 z im c => b_b2 (bo_two (fun a b => a &&& b) bo_and) (fun S s => ih n S fs d mi nx ls s) S st
noncomputable def bll28 : bOP := fun W sm sc tb fin ih n S fs d mi pc nx ls st a1 a2 a3 z im c => b_tsw (fun S p s => afo p fun p => ih n S fs d mi p ls s) S a1 st
noncomputable def bll29 : bOP := fun W sm sc tb fin ih n S fs d mi pc nx ls st a1 a2 a3 z im c => b_i2l (fun s => ih n S fs d mi nx ls s) st
noncomputable def bll30 : bOP := fun W sm sc tb fin ih n S fs d mi pc nx ls st a1 a2 a3 z im c => b_aldJ tb (fun S s => ih n S fs d mi nx ls s) S st
noncomputable def bll31 : bOP := fun W sm sc tb fin ih n S fs d mi pc nx ls st a1 a2 a3 z im c => b_lcmp (fun S s => ih n S fs d mi nx ls s) S st
noncomputable def bll32 : bOP := fun W sm sc tb fin ih n S fs d mi pc nx ls st a1 a2 a3 z im c => b_astJ tb (fun S s => ih n S fs d mi nx ls s) S st
noncomputable def bll33 : bOP := fun W sm sc tb fin ih n S fs d mi pc nx ls st a1 a2 a3 z im c => b_b2 bo_mul (fun S s => ih n S fs d mi nx ls s) S st
noncomputable def bll34 : bOP := fun W sm sc tb fin ih n S fs d mi pc nx ls st a1 a2 a3 z im c => b_div bo_div (fun S s => ih n S fs d mi nx ls s) S st
noncomputable def bll35 : bOP := fun W sm sc tb fin ih n S fs d mi pc nx ls st a1 a2 a3 z im c => b_div bo_rem (fun S s => ih n S fs d mi nx ls s) S st
noncomputable def bll36 : bOP := fun W sm sc tb fin ih n S fs d mi pc nx ls st a1 a2 a3 z im c => b_b2 (bo_two (fun a b => a <<< (b &&& 31)) bo_shl) (fun S s => ih n S fs d mi nx ls s) S st
noncomputable def bll37 : bOP := fun W sm sc tb fin ih n S fs d mi pc nx ls st a1 a2 a3 z im c => b_b2 (bo_two (fun a b => a >>> (b &&& 31)) bo_any) (fun S s => ih n S fs d mi nx ls s) S st
noncomputable def bll38 : bOP := fun W sm sc tb fin ih n S fs d mi pc nx ls st a1 a2 a3 z im c => b_b2 (bo_two (fun a b => (a.toUInt32 >>> (b.toUInt32 &&& Int32.toUInt32 31)).toInt32) bo_any) (fun S s => ih n S fs d mi nx ls s) S st
noncomputable def bll39 : bOP := fun W sm sc tb fin ih n S fs d mi pc nx ls st a1 a2 a3 z im c => b_b2 (bo_two (fun a b => a ^^^ b) bo_xor) (fun S s => ih n S fs d mi nx ls s) S st
noncomputable def bll40 : bOP := fun W sm sc tb fin ih n S fs d mi pc nx ls st a1 a2 a3 z im c => b_b2 (bo_two (fun a b => a ||| b) bo_or) (fun S s => ih n S fs d mi nx ls s) S st
noncomputable def bll41 : bOP := fun W sm sc tb fin ih n S fs d mi pc nx ls st a1 a2 a3 z im c => b_i2b (fun S s => ih n S fs d mi nx ls s) S st
noncomputable def bll42 : bOP := fun W sm sc tb fin ih n S fs d mi pc nx ls st a1 a2 a3 z im c => b_astB tb W (fun S s => ih n S fs d mi nx ls s) S st
noncomputable def bll43 : bOP := fun W sm sc tb fin ih n S fs d mi pc nx ls st a1 a2 a3 z im c => b_aldB tb (fun S s => ih n S fs d mi nx ls s) S st
noncomputable def bll44 : bOP := fun W sm sc tb fin ih n S fs d mi pc nx ls st a1 a2 a3 z im c => b_aldA tb (fun s => ih n S fs d mi nx ls s) st
noncomputable def bll45 : bOP := fun W sm sc tb fin ih n S fs d mi pc nx ls st a1 a2 a3 z im c => b_nul (fun p s => afo p fun p => ih n S fs d mi p ls s) a1 nx st
noncomputable def bll46 : bOP := fun W sm sc tb fin ih n S fs d mi pc nx ls st a1 a2 a3 z im c => b_nul (fun p s => afo p fun p => ih n S fs d mi p ls s) nx a1 st
noncomputable def bll47 : bOP := fun W sm sc tb fin ih n S fs d mi pc nx ls st a1 a2 a3 z im c => (match a1 with
    | 0 => bfo z.toInt fun c => ih n S fs d mi nx ls (.inl (c, []) :: st)
    | 1 => ih n S fs d mi nx ls (.inr (.inl (.retAddr a2)) :: st)
    | _ => false)
noncomputable def bll48 : bOP := fun W sm sc tb fin ih n S fs d mi pc nx ls st a1 a2 a3 z im c => (match a1 with
    | 0 => bfo z.toInt fun c => ih n S fs d mi nx ls (.inl (c, []) :: st)
    | _ => false)
noncomputable def bll49 : bOP := fun W sm sc tb fin ih n S fs d mi pc nx ls st a1 a2 a3 z im c => b_ldJ (fun s => ih n S fs d mi nx ls s) ls im st
noncomputable def bll50 : bOP := fun W sm sc tb fin ih n S fs d mi pc nx ls st a1 a2 a3 z im c => b_stJ (fun l s => ih n S fs d mi nx l s) ls im st
noncomputable def bll51 : bOP := fun W sm sc tb fin ih n S fs d mi pc nx ls st a1 a2 a3 z im c => bfo z.toInt fun c => ih n S fs d mi nx ls (.inr (.inr (c, [])) :: st)
noncomputable def bll52 : bOP := fun W sm sc tb fin ih n S fs d mi pc nx ls st a1 a2 a3 z im c => b_l2 (fun S s => ih n S fs d mi nx ls s) S st
noncomputable def bll53 : bOP := fun W sm sc tb fin ih n S fs d mi pc nx ls st a1 a2 a3 z im c => b_ldiv (fun S s => ih n S fs d mi nx ls s) S st
noncomputable def bll54 : bOP := fun W sm sc tb fin ih n S fs d mi pc nx ls st a1 a2 a3 z im c => b_l2i (fun S s => ih n S fs d mi nx ls s) S st
noncomputable def bll0 : bOP := fun W sm sc tb fin ih n S fs d mi pc nx ls st a1 a2 a3 z im c => false
noncomputable def b_step (op : Nat) : bOP := cond (Nat.blt op 4) (cond (Nat.blt op 2) (cond (Nat.blt op 1) (bll0) (bll1)) (cond (Nat.blt op 3) (bll2) (bll3))) (cond (Nat.blt op 8) (cond (Nat.blt op 6) (cond (Nat.blt op 5) (bll4) (bll5)) (cond (Nat.blt op 7) (bll6) (bll7))) (cond (Nat.blt op 12) (cond (Nat.blt op 10) (cond (Nat.blt op 9) (bll8) (bll9)) (cond (Nat.blt op 11) (bll10) (bll11))) (cond (Nat.blt op 16) (cond (Nat.blt op 14) (cond (Nat.blt op 13) (bll12) (bll13)) (cond (Nat.blt op 15) (bll14) (bll15))) (cond (Nat.blt op 20) (cond (Nat.blt op 18) (cond (Nat.blt op 17) (bll16) (bll17)) (cond (Nat.blt op 19) (bll18) (bll19))) (cond (Nat.blt op 24) (cond (Nat.blt op 22) (cond (Nat.blt op 21) (bll20) (bll21)) (cond (Nat.blt op 23) (bll22) (bll23))) (cond (Nat.blt op 28) (cond (Nat.blt op 26) (cond (Nat.blt op 25) (bll24) (bll25)) (cond (Nat.blt op 27) (bll26) (bll27))) (cond (Nat.blt op 32) (cond (Nat.blt op 30) (cond (Nat.blt op 29) (bll28) (bll29)) (cond (Nat.blt op 31) (bll30) (bll31))) (cond (Nat.blt op 40) (cond (Nat.blt op 36) (cond (Nat.blt op 34) (cond (Nat.blt op 33) (bll32) (bll33)) (cond (Nat.blt op 35) (bll34) (bll35))) (cond (Nat.blt op 38) (cond (Nat.blt op 37) (bll36) (bll37)) (cond (Nat.blt op 39) (bll38) (bll39)))) (cond (Nat.blt op 48) (cond (Nat.blt op 44) (cond (Nat.blt op 42) (cond (Nat.blt op 41) (bll40) (bll41)) (cond (Nat.blt op 43) (bll42) (bll43))) (cond (Nat.blt op 46) (cond (Nat.blt op 45) (bll44) (bll45)) (cond (Nat.blt op 47) (bll46) (bll47)))) (cond (Nat.blt op 51) (cond (Nat.blt op 49) (bll48) (cond (Nat.blt op 50) (bll49) (bll50))) (cond (Nat.blt op 53) (cond (Nat.blt op 52) (bll51) (bll52)) (cond (Nat.blt op 54) (bll53) (bll54)))))))))))))
noncomputable def bbod1 (W : Nat) (sm : bSt9) (sc : Option bI) (tb : bTb) (fin : bS → Option bV → Bool) (ih : bF) : bF := fun n S fs d mi pc ls st =>
  Nat.rec (motive := fun _ => Bool) false (fun n _ => match zfetch mi pc with
  | none => false
  | some (ins, ln, (a1, a2, a3), z, _) => afo (pc + ln) fun nx => b_step (bcode ins).1 W sm sc tb fin ih n S fs d mi pc nx ls st a1 a2 a3 z (bcode ins).2.1 (bcode ins).2.2) n
noncomputable def bbody (W : Nat) (sm : bSt9) (sc : Option bI) (tb : bTb) (cut : Nat → Bool) (arr : Nat → Nat → Nat → bS → bLs → Bool) (fin : bS → Option bV → Bool) (ih : bF) : bF := fun n S fs d mi pc ls st =>
  cond (match fs with
    | [] => cut pc
    | _ :: _ => false) (match st with
    | [] => arr d mi pc S ls
    | _ :: _ => false) (bbod1 W sm sc tb fin ih n S fs d mi pc ls st)
noncomputable def zbc (W : Nat) (sm : bSt9) (sc : Option bI) (tb : bTb) (cut : Nat → Bool) (arr : Nat → Nat → Nat → bS → bLs → Bool) (fin : bS → Option bV → Bool) (F : Nat) : bF := Nat.rec (motive := fun _ => bF) (fun _ _ _ _ _ _ _ _ => false) (fun _ ih => bbody W sm sc tb cut arr fin ih) F
section BSTEP
variable {E : zE} {tb : bTb} {W : Nat} {h0 : zH} {V0 V : List Int} {B : Nat} {Q : Option zR → Prop} {sm : bSt9} {sc : Option bI} {ih : bF} {fin : bS → Option bV → Bool} {S : bS} {fs : List bFm} {cfs : List dFm} {h : zH} {n d d' f mi pc nx : Nat} {ls : bLs} {lc : zLs} {st : bSt} {s : List Value}
def bSC (E : zE) (V0 : List Int) (sc : Option bI) : Prop := E.1 < 2147483648 ∧ ∀ N, sc = some N → brel V0 N (E.1 : Int)
set_option maxHeartbeats 2000000 in
set_option maxRecDepth 100000 in
theorem bstep_s (IH : bIH E tb W h0 V0 B Q ih) (hsm : bSO E tb B sm) (hsc : bSC E V0 sc) (hfin : bFin E tb W h0 V0 Q fin) (hd : d ≤ d') (hn : B + n ≤ f) (hx : bxt V0 V) (hS : bSS E tb W h0 V S h) (hf : bFR B V fs cfs) (hl : bLR V ls lc) (hs : bKR V st s) {ln a1 a2 a3 : Nat} {z : Int32} {ins : Instr} (e : b_step (bcode ins).1 W sm sc tb fin ih n S fs d mi pc (pc + ln) ls st a1 a2 a3 z (bcode ins).2.1 (bcode ins).2.2 = true) : bsem E Q cfs (zins E (zex E f) d' mi pc lc s h ln a1 a2 a3 z ins) := by
  have hN : ∀ V, bxt V0 V → ∀ N, sc = some N → brel V N (E.1 : Int) := fun V hx N hN => brel_up hx (hsc.2 N hN)
  have I : ∀ {V' : List Int} {S : bS} {q : Nat} {l : bLs} {l' : zLs} {a : bSt} {s : List Value} {h' : zH}, bxt V V' → bSS E tb W h0 V' S h' → bLR V' l l' → bKR V' a s → ih n S fs d mi q l a = true → bsem E Q cfs (zex E f d' mi q l' s h') := fun hv hS hl hs e => IH _ _ _ _ _ _ _ _ e _ _ _ _ _ _ _ hd hn (bxt_trans hx hv) hS (bFR_up hv hf) hl hs
  have J : ∀ {V' : List Int} {S : bS} {q : Nat} {l : bLs} {l' : zLs} {a : bSt} {s : List Value} {h' : zH}, bxt V V' → bSS E tb W h0 V' S h' → bLR V' l l' → bKR V' a s → (afo q fun q => ih n S fs d mi q l a) = true → bsem E Q cfs (zex E f d' mi q l' s h') := fun hv hS hl hs e => I hv hS hl hs (by rw [afo_eq] at e; exact e)
  have R := bxt_refl V
  cases ins with
  | aload i =>
    have e : (b_ldA (fun s => ih n S fs d mi (pc + ln) ls s) ls i st) = true := e
    exact b_ldA_s hl hs (fun _ _ h3 e => I R hS hl h3 e) e
  | aload_n i =>
    have e : (b_ldA (fun s => ih n S fs d mi (pc + ln) ls s) ls i.val st) = true := e
    exact b_ldA_s hl hs (fun _ _ h3 e => I R hS hl h3 e) e
  | iload i =>
    have e : (b_ldI (fun s => ih n S fs d mi (pc + ln) ls s) ls i st) = true := e
    exact b_ldI_s hl hs (fun _ _ h3 e => I R hS hl h3 e) e
  | iload_n i =>
    have e : (b_ldI (fun s => ih n S fs d mi (pc + ln) ls s) ls i.val st) = true := e
    exact b_ldI_s hl hs (fun _ _ h3 e => I R hS hl h3 e) e
  | getfield i0 =>
    have e : (b_get tb (fun S s => ih n S fs d mi (pc + ln) ls s) S a1 a2 st) = true := e
    exact b_get_s hS hs (fun _ _ _ _ h1 h2 h3 e => I h1 h2 (bLR_up h1 hl) h3 e) e
  | if_icmp c i0 =>
    have e : (b_if2 (fun S p s => afo p fun p => ih n S fs d mi p ls s) S c a1 (pc + ln) st) = true := e
    exact b_if2_s hS hs (fun _ _ _ p9 h2 h3 e => J (q := p9) R h2 hl h3 e) e
  | istore i =>
    have e : (b_stI (fun l s => ih n S fs d mi (pc + ln) l s) ls i st) = true := e
    exact b_stI_s hl hs (fun _ _ _ _ h2 h3 e => I R hS h2 h3 e) e
  | istore_n i =>
    have e : (b_stI (fun l s => ih n S fs d mi (pc + ln) l s) ls i.val st) = true := e
    exact b_stI_s hl hs (fun _ _ _ _ h2 h3 e => I R hS h2 h3 e) e
  | iinc i i0 =>
    have e : (b_inc (fun S l => ih n S fs d mi (pc + ln) l st) S ls i z) = true := e
    exact b_inc_s hS hl (fun _ _ _ _ h1 h2 h3 e => I h1 h2 h3 (bKR_up h1 hs) e) e
  | goto i0 =>
    have e : (afo a1 fun p => ih n S fs d mi p ls st) = true := e
    exact J R hS hl hs e
  | iaload =>
    have e : (b_ald tb sc (fun S s => ih n S fs d mi (pc + ln) ls s) S st) = true := e
    exact b_ald_s (hN V hx) hS hs (fun _ _ _ _ h1 h2 h3 e => I h1 h2 (bLR_up h1 hl) h3 e) e
  | iconst i0 =>
    have e : (bfo z.toInt fun c => ih n S fs d mi (pc + ln) ls (.inl (c, []) :: st)) = true := e
    rw [bfo_eq] at e
    exact I R hS hl (s := .int z :: s) (bKR_ci (brel_c V _) hs) e
  | bipush i0 =>
    have e : (bfo z.toInt fun c => ih n S fs d mi (pc + ln) ls (.inl (c, []) :: st)) = true := e
    rw [bfo_eq] at e
    exact I R hS hl (s := .int z :: s) (bKR_ci (brel_c V _) hs) e
  | sipush i0 =>
    have e : (bfo z.toInt fun c => ih n S fs d mi (pc + ln) ls (.inl (c, []) :: st)) = true := e
    rw [bfo_eq] at e
    exact I R hS hl (s := .int z :: s) (bKR_ci (brel_c V _) hs) e
  | iastore =>
    have e : (b_ast tb W (fun S s => ih n S fs d mi (pc + ln) ls s) S st) = true := e
    exact b_ast_s hS hs (fun _ _ _ _ _ h1 h2 h3 e => I h1 h2 (bLR_up h1 hl) h3 e) e
  | putfield i0 =>
    have e : (b_put tb W (fun S s => ih n S fs d mi (pc + ln) ls s) S a1 a2 z st) = true := e
    exact b_put_s hS hs (fun _ _ _ _ _ h1 h2 h3 e => I h1 h2 (bLR_up h1 hl) h3 e) e
  | ireturn =>
    have e : (b_ire ih fin S fs mi st) = true := e
    exact b_ire_s IH hfin hx hS hf hs e
  | invokevirtual i0 =>
    have e : ((match (generalizing := false) a1 with
    | 0 => b_inv tb W sm ih n S fs d mi pc (pc + ln) a2 (Nat.beq a3 0) ls st
    | k + 1 => b_pri tb W (fun S s => ih n S fs d mi (pc + ln) ls s) S (k + 1) st)) = true := e
    cases a1 with
    | zero => exact b_inv_s IH hsm hx hS hf hd hn hl hs e
    | succ k => exact b_pri_s (K := fun ls s h => zex E f d' mi (pc + ln) ls s h) hS hs (fun _ _ _ _ _ h1 h2 h3 e => I h1 h2 (bLR_up h1 hl) h3 e) e
  | iadd =>
    have e : (b_b2 bo_add (fun S s => ih n S fs d mi (pc + ln) ls s) S st) = true := e
    exact b_b2_s bo_add_s hS hs (fun _ _ _ _ h1 h2 h3 e => I h1 h2 (bLR_up h1 hl) h3 e) e
  | invokestatic i0 =>
    have e : ((match (generalizing := false) a1 with
    | 0 => b_inv tb W sm ih n S fs d mi pc (pc + ln) a2 (Nat.beq a3 0) ls st
    | k + 1 => b_pri tb W (fun S s => ih n S fs d mi (pc + ln) ls s) S (k + 1) st)) = true := e
    cases a1 with
    | zero => exact b_inv_s IH hsm hx hS hf hd hn hl hs e
    | succ k => exact b_pri_s (K := fun ls s h => zex E f d' mi (pc + ln) ls s h) hS hs (fun _ _ _ _ _ h1 h2 h3 e => I h1 h2 (bLR_up h1 hl) h3 e) e
  | return_ =>
    have e : (b_rtv ih fin S fs mi st) = true := e
    exact b_rtv_s IH hfin hx hS hf hs e
  | invokespecial i0 =>
    have e : ((match (generalizing := false) a1 with
    | 0 => b_inv tb W sm ih n S fs d mi pc (pc + ln) a2 false ls st
    | k + 1 => b_pri tb W (fun S s => ih n S fs d mi (pc + ln) ls s) S (k + 1) st)) = true := e
    cases a1 with
    | zero => exact b_inv_s IH hsm hx hS hf hd hn hl hs e
    | succ k => exact b_pri_s (K := fun ls s h => zex E f d' mi (pc + ln) ls s h) hS hs (fun _ _ _ _ _ h1 h2 h3 e => I h1 h2 (bLR_up h1 hl) h3 e) e
  | new i0 =>
    have e : (b_new ih S fs a1 a2 st) = true := e
    exact b_new_s (K := fun s h => zex E f d' mi (pc + ln) lc s h) IH hx hS hf hs e
  | dup =>
    have e : (b_dup (fun s => ih n S fs d mi (pc + ln) ls s) st) = true := e
    unfold b_dup at e
    split at e
    · obtain ⟨w, r, h1, h2, h3⟩ := bKR_v hs
      subst h1
      obtain ⟨h4, e⟩ := bcnd e
      rw [← bc1_s h2] at h4
      show bsem E Q cfs (cond (zc1 w) (zex E f d' mi (pc + ln) lc (w :: w :: r) h) none)
      rw [h4]
      exact I R hS hl (bKR_cv h2 (bKR_cv h2 h3)) e
    · cases e
  | aconst_null =>
    have e : (ih n S fs d mi (pc + ln) ls (.inr (.inl .null) :: st)) = true := e
    exact I R hS hl (s := .null :: s) (bKR_co hs) e
  | ifCond c i0 =>
    have e : (b_if1 (fun S p s => afo p fun p => ih n S fs d mi p ls s) S c a1 (pc + ln) st) = true := e
    exact b_if1_s hS hs (fun _ _ _ p9 h2 h3 e => J (q := p9) R h2 hl h3 e) e
  | pop =>
    have e : (b_popv (fun s => ih n S fs d mi (pc + ln) ls s) st) = true := e
    unfold b_popv at e
    split at e
    · obtain ⟨w, r, h1, h2, h3⟩ := bKR_v hs
      subst h1
      obtain ⟨h4, e⟩ := bcnd e
      rw [← bc1_s h2] at h4
      show bsem E Q cfs (cond (zc1 w) (zex E f d' mi (pc + ln) lc r h) none)
      rw [h4]
      exact I R hS hl h3 e
    · cases e
  | dup2 =>
    have e : (b_dup2 (fun s => ih n S fs d mi (pc + ln) ls s) st) = true := e
    unfold b_dup2 at e
    split at e
    · obtain ⟨w, r, h1, h2, h3⟩ := bKR_v hs
      subst h1
      obtain ⟨u, r, h1, h5, h6⟩ := bKR_v h3
      subst h1
      obtain ⟨h4, e⟩ := bcnd e
      rw [← bc1_s h2, ← bc1_s h5] at h4
      show bsem E Q cfs (cond (zc1 w && zc1 u) (zex E f d' mi (pc + ln) lc (w :: u :: w :: u :: r) h) none)
      rw [h4]
      exact I R hS hl (bKR_cv h2 (bKR_cv h5 (bKR_cv h2 (bKR_cv h5 h6)))) e
    · cases e
  | isub =>
    have e : (b_b2 bo_sub (fun S s => ih n S fs d mi (pc + ln) ls s) S st) = true := e
    exact b_b2_s bo_sub_s hS hs (fun _ _ _ _ h1 h2 h3 e => I h1 h2 (bLR_up h1 hl) h3 e) e
  | astore i =>
    have e : (b_stA (fun l s => ih n S fs d mi (pc + ln) l s) ls i st) = true := e
    exact b_stA_s hl hs (fun _ _ _ _ h2 h3 e => I R hS h2 h3 e) e
  | astore_n i =>
    have e : (b_stA (fun l s => ih n S fs d mi (pc + ln) l s) ls i.val st) = true := e
    exact b_stA_s hl hs (fun _ _ _ _ h2 h3 e => I R hS h2 h3 e) e
  | arraylength =>
    have e : (b_len tb sc (fun s => ih n S fs d mi (pc + ln) ls s) st) = true := e
    exact b_len_s hsc.1 (hN V hx) hS hs (fun _ _ h3 e => I R hS hl h3 e) e
  | iand =>
    have e : (b_b2 (bo_two (fun a b => a &&& b) bo_and) (fun S s => ih n S fs d mi (pc + ln) ls s) S st) = true := e
    exact b_b2_s (bo_two_s bo_and_s) hS hs (fun _ _ _ _ h1 h2 h3 e => I h1 h2 (bLR_up h1 hl) h3 e) e
  | tableswitch df lo hi offs =>
    have e : (b_tsw (fun S p s => afo p fun p => ih n S fs d mi p ls s) S a1 st) = true := e
    unfold b_tsw at e
    split at e
    · obtain ⟨x, r, h1, h2, h3⟩ := bKR_i hs
      subst h1
      split at e
      · rename_i l t hz
        show bsem E Q cfs (match zat zsws a1 with
          | some (l, t) => zsw x l t (fun p => zex E f d' mi p lc r h)
          | none => none)
        rw [hz]
        exact b_sw_s (K := fun p => zex E f d' mi p lc r h) (fun _ _ h5 e => J R h5 hl h3 e) hS h2 e
      · cases e
    · cases e
  | i2l =>
    have e : (b_i2l (fun s => ih n S fs d mi (pc + ln) ls s) st) = true := e
    unfold b_i2l at e
    split at e
    · obtain ⟨x, r, h1, h2, h3⟩ := bKR_i hs
      subst h1
      exact I R hS hl (s := .long x.toInt64 :: r) (bKR_cj (by rw [Int32.toInt_toInt64]; exact h2) h3) e
    · cases e
  | laload =>
    have e : (b_aldJ tb (fun S s => ih n S fs d mi (pc + ln) ls s) S st) = true := e
    exact b_aldJ_s hS hs (fun _ _ _ _ h1 h2 h3 e => I h1 h2 (bLR_up h1 hl) h3 e) e
  | lcmp =>
    have e : (b_lcmp (fun S s => ih n S fs d mi (pc + ln) ls s) S st) = true := e
    exact b_lcmp_s hS hs (K := fun s => zex E f d' mi (pc + ln) lc s h) (fun _ _ _ _ h1 h2 h3 e => I h1 h2 (bLR_up h1 hl) h3 e) e
  | lastore =>
    have e : (b_astJ tb (fun S s => ih n S fs d mi (pc + ln) ls s) S st) = true := e
    exact b_astJ_s hS hs (fun _ _ _ _ _ h1 h2 h3 e => I h1 h2 (bLR_up h1 hl) h3 e) e
  | imul =>
    have e : (b_b2 bo_mul (fun S s => ih n S fs d mi (pc + ln) ls s) S st) = true := e
    exact b_b2_s bo_mul_s hS hs (fun _ _ _ _ h1 h2 h3 e => I h1 h2 (bLR_up h1 hl) h3 e) e
  | idiv =>
    have e : (b_div bo_div (fun S s => ih n S fs d mi (pc + ln) ls s) S st) = true := e
    unfold b_div at e
    split at e
    · obtain ⟨y, r, h1, h2, h3⟩ := bKR_i hs
      subst h1
      obtain ⟨x, r, h1, h4, h5⟩ := bKR_i h3
      subst h1
      obtain ⟨h10, hb⟩ := bo_div_s hS h4 h2 e
      show bsem E Q cfs (znz y (zex E f d' mi (pc + ln) lc (.int (x / y) :: r) h))
      unfold znz
      rw [if_neg h10]
      exact bfin9_lift hb fun V' f' S' g1 g2 g3 e => I g1 g3 (bLR_up g1 hl) (bKR_ci g2 (bKR_up g1 h5)) e
    · cases e
  | irem =>
    have e : (b_div bo_rem (fun S s => ih n S fs d mi (pc + ln) ls s) S st) = true := e
    unfold b_div at e
    split at e
    · obtain ⟨y, r, h1, h2, h3⟩ := bKR_i hs
      subst h1
      obtain ⟨x, r, h1, h4, h5⟩ := bKR_i h3
      subst h1
      obtain ⟨h10, hb⟩ := bo_rem_s hS h4 h2 e
      show bsem E Q cfs (znz y (zex E f d' mi (pc + ln) lc (.int (x - x / y * y) :: r) h))
      unfold znz
      rw [if_neg h10]
      exact bfin9_lift hb fun V' f' S' g1 g2 g3 e => I g1 g3 (bLR_up g1 hl) (bKR_ci g2 (bKR_up g1 h5)) e
    · cases e
  | ishl =>
    have e : (b_b2 (bo_two (fun a b => a <<< (b &&& 31)) bo_shl) (fun S s => ih n S fs d mi (pc + ln) ls s) S st) = true := e
    exact b_b2_s (bo_two_s bo_shl_s) hS hs (fun _ _ _ _ h1 h2 h3 e => I h1 h2 (bLR_up h1 hl) h3 e) e
  | ishr =>
    have e : (b_b2 (bo_two (fun a b => a >>> (b &&& 31)) bo_any) (fun S s => ih n S fs d mi (pc + ln) ls s) S st) = true := e
    exact b_b2_s (bo_two_s (bo_anyo_s _)) hS hs (fun _ _ _ _ h1 h2 h3 e => I h1 h2 (bLR_up h1 hl) h3 e) e
  | iushr =>
    have e : (b_b2 (bo_two (fun a b => (a.toUInt32 >>> (b.toUInt32 &&& Int32.toUInt32 31)).toInt32) bo_any) (fun S s => ih n S fs d mi (pc + ln) ls s) S st) = true := e
    exact b_b2_s (bo_two_s (bo_anyo_s _)) hS hs (fun _ _ _ _ h1 h2 h3 e => I h1 h2 (bLR_up h1 hl) h3 e) e
  | ixor =>
    have e : (b_b2 (bo_two (fun a b => a ^^^ b) bo_xor) (fun S s => ih n S fs d mi (pc + ln) ls s) S st) = true := e
    exact b_b2_s (bo_two_s bo_xor_s) hS hs (fun _ _ _ _ h1 h2 h3 e => I h1 h2 (bLR_up h1 hl) h3 e) e
  | ior =>
    have e : (b_b2 (bo_two (fun a b => a ||| b) bo_or) (fun S s => ih n S fs d mi (pc + ln) ls s) S st) = true := e
    exact b_b2_s (bo_two_s bo_or_s) hS hs (fun _ _ _ _ h1 h2 h3 e => I h1 h2 (bLR_up h1 hl) h3 e) e
  | i2b =>
    have e : (b_i2b (fun S s => ih n S fs d mi (pc + ln) ls s) S st) = true := e
    unfold b_i2b at e
    split at e
    · obtain ⟨x, r, h1, h2, h3⟩ := bKR_i hs
      subst h1
      exact bfin9_lift (b_by_s hS h2 e) fun V' f' S' g1 g2 g3 e => I g1 g3 (bLR_up g1 hl) (s := .int x.toInt8.toInt32 :: r) (bKR_ci g2 (bKR_up g1 h3)) e
    · cases e
  | bastore =>
    have e : (b_astB tb W (fun S s => ih n S fs d mi (pc + ln) ls s) S st) = true := e
    exact b_astB_s hS hs (fun _ _ _ _ _ h1 h2 h3 e => I h1 h2 (bLR_up h1 hl) h3 e) e
  | baload =>
    have e : (b_aldB tb (fun S s => ih n S fs d mi (pc + ln) ls s) S st) = true := e
    exact b_aldB_s hS hs (fun _ _ _ _ h1 h2 h3 e => I h1 h2 (bLR_up h1 hl) h3 e) e
  | aaload =>
    have e : (b_aldA tb (fun s => ih n S fs d mi (pc + ln) ls s) st) = true := e
    exact b_aldA_s hS hs (fun _ _ h3 e => I R hS hl h3 e) e
  | ifnull i0 =>
    have e : (b_nul (fun p s => afo p fun p => ih n S fs d mi p ls s) a1 (pc + ln) st) = true := e
    exact b_nul_s hs (fun _ _ p9 h3 e => J (q := p9) R hS hl h3 e) e
  | ifnonnull i0 =>
    have e : (b_nul (fun p s => afo p fun p => ih n S fs d mi p ls s) (pc + ln) a1 st) = true := e
    exact b_nul_s hs (fun _ _ p9 h3 e => J (q := p9) R hS hl h3 e) e
  | ldc i0 =>
    have e : ((match (generalizing := false) a1 with
    | 0 => bfo z.toInt fun c => ih n S fs d mi (pc + ln) ls (.inl (c, []) :: st)
    | 1 => ih n S fs d mi (pc + ln) ls (.inr (.inl (.retAddr a2)) :: st)
    | _ => false)) = true := e
    cases a1 with
    | zero => exact I R hS hl (s := .int z :: s) (bKR_ci (brel_c V _) hs) (by simp only [bfo_eq] at e; exact e)
    | succ a1 =>
      cases a1 with
      | zero => exact I R hS hl (s := .retAddr a2 :: s) (bKR_co hs) e
      | succ a1 => cases e
  | ldc_w i0 =>
    have e : ((match (generalizing := false) a1 with
    | 0 => bfo z.toInt fun c => ih n S fs d mi (pc + ln) ls (.inl (c, []) :: st)
    | _ => false)) = true := e
    cases a1 with
    | zero => exact I R hS hl (s := .int z :: s) (bKR_ci (brel_c V _) hs) (by simp only [bfo_eq] at e; exact e)
    | succ a1 => cases e
  | lload i =>
    have e : (b_ldJ (fun s => ih n S fs d mi (pc + ln) ls s) ls i st) = true := e
    exact b_ldJ_s hl hs (fun _ _ h3 e => I R hS hl h3 e) e
  | lload_n i =>
    have e : (b_ldJ (fun s => ih n S fs d mi (pc + ln) ls s) ls i.val st) = true := e
    exact b_ldJ_s hl hs (fun _ _ h3 e => I R hS hl h3 e) e
  | lstore i =>
    have e : (b_stJ (fun l s => ih n S fs d mi (pc + ln) l s) ls i st) = true := e
    exact b_stJ_s hl hs (fun _ _ _ _ h2 h3 e => I R hS h2 h3 e) e
  | lstore_n i =>
    have e : (b_stJ (fun l s => ih n S fs d mi (pc + ln) l s) ls i.val st) = true := e
    exact b_stJ_s hl hs (fun _ _ _ _ h2 h3 e => I R hS h2 h3 e) e
  | lconst i0 =>
    have e : (bfo z.toInt fun c => ih n S fs d mi (pc + ln) ls (.inr (.inr (c, [])) :: st)) = true := e
    rw [bfo_eq] at e
    exact I R hS hl (s := .long z.toInt64 :: s) (bKR_cj (by rw [Int32.toInt_toInt64]; exact brel_c V _) hs) e
  | ldc2_w i0 =>
    have e : (bfo z.toInt fun c => ih n S fs d mi (pc + ln) ls (.inr (.inr (c, [])) :: st)) = true := e
    rw [bfo_eq] at e
    exact I R hS hl (s := .long z.toInt64 :: s) (bKR_cj (by rw [Int32.toInt_toInt64]; exact brel_c V _) hs) e
  | ladd =>
    have e : (b_l2 (fun S s => ih n S fs d mi (pc + ln) ls s) S st) = true := e
    exact b_l2_s hS hs (fun _ _ _ _ h1 h2 h3 e => I h1 h2 (bLR_up h1 hl) h3 e) e
  | lsub =>
    have e : (b_l2 (fun S s => ih n S fs d mi (pc + ln) ls s) S st) = true := e
    exact b_l2_s hS hs (fun _ _ _ _ h1 h2 h3 e => I h1 h2 (bLR_up h1 hl) h3 e) e
  | lmul =>
    have e : (b_l2 (fun S s => ih n S fs d mi (pc + ln) ls s) S st) = true := e
    exact b_l2_s hS hs (fun _ _ _ _ h1 h2 h3 e => I h1 h2 (bLR_up h1 hl) h3 e) e
  | land =>
    have e : (b_l2 (fun S s => ih n S fs d mi (pc + ln) ls s) S st) = true := e
    exact b_l2_s hS hs (fun _ _ _ _ h1 h2 h3 e => I h1 h2 (bLR_up h1 hl) h3 e) e
  | lor =>
    have e : (b_l2 (fun S s => ih n S fs d mi (pc + ln) ls s) S st) = true := e
    exact b_l2_s hS hs (fun _ _ _ _ h1 h2 h3 e => I h1 h2 (bLR_up h1 hl) h3 e) e
  | ldiv =>
    have e : (b_ldiv (fun S s => ih n S fs d mi (pc + ln) ls s) S st) = true := e
    exact b_ldiv_s hS hs (P := bsem E Q cfs) (K := fun s => zex E f d' mi (pc + ln) lc s h) (fun _ _ _ _ h1 h2 h3 e => I h1 h2 (bLR_up h1 hl) h3 e) e
  | l2i =>
    have e : (b_l2i (fun S s => ih n S fs d mi (pc + ln) ls s) S st) = true := e
    exact b_l2i_s hS hs (K := fun s => zex E f d' mi (pc + ln) lc s h) (fun _ _ _ _ h1 h2 h3 e => I h1 h2 (bLR_up h1 hl) h3 e) e
  | _ => exact absurd (show false = true from e) (fun z => nomatch z)
set_option maxRecDepth 100000 in
theorem bbod1_s (IH : bIH E tb W h0 V0 B Q ih) (hsm : bSO E tb B sm) (hsc : bSC E V0 sc) (hfin : bFin E tb W h0 V0 Q fin) : bIH E tb W h0 V0 B Q (bbod1 W sm sc tb fin ih) := by
  intro n S fs d mi pc ls st e V cfs lc s h d' f hd hn hx hS hf hl hs
  cases n with
  | zero => exact absurd (show false = true from e) (fun z => nomatch z)
  | succ n =>
    have e : (match zfetch mi pc with
      | none => false
      | some (ins, ln, (a1, a2, a3), z, _) => afo (pc + ln) fun nx => b_step (bcode ins).1 W sm sc tb fin ih n S fs d mi pc nx ls st a1 a2 a3 z (bcode ins).2.1 (bcode ins).2.2) = true := e
    cases f with
    | zero => omega
    | succ f =>
      rw [zex_succ]
      unfold zbody
      split at e
      · cases e
      · rename_i ins ln a1 a2 a3 z w hz
        rw [hz]
        rw [afo_eq] at e
        exact bstep_s IH hsm hsc hfin hd (by omega) hx hS hf hl hs e
set_option maxRecDepth 100000 in
theorem bbody_s {cut : Nat → Bool} {arr : Nat → Nat → Nat → bS → bLs → Bool} (harr : bArr E tb W h0 V0 B Q arr) (IH : bIH E tb W h0 V0 B Q ih) (hsm : bSO E tb B sm) (hsc : bSC E V0 sc) (hfin : bFin E tb W h0 V0 Q fin) : bIH E tb W h0 V0 B Q (bbody W sm sc tb cut arr fin ih) := by
  intro n S fs d mi pc ls st e V cfs lc s h d' f hd hn hx hS hf hl hs
  cases fs with
  | cons g fs =>
    have e : bbod1 W sm sc tb fin ih n S (g :: fs) d mi pc ls st = true := e
    exact bbod1_s IH hsm hsc hfin n S _ d mi pc ls st e V cfs lc s h d' f hd hn hx hS hf hl hs
  | nil =>
    have e : cond (cut pc) (match (generalizing := false) st with
      | [] => arr d mi pc S ls
      | _ :: _ => false) (bbod1 W sm sc tb fin ih n S [] d mi pc ls st) = true := e
    cases h1 : cut pc with
    | false =>
      rw [h1, cond_false] at e
      exact bbod1_s IH hsm hsc hfin n S [] d mi pc ls st e V cfs lc s h d' f hd hn hx hS hf hl hs
    | true =>
      rw [h1, cond_true] at e
      cases cfs with
      | cons g cfs => exact hf.elim
      | nil =>
        cases st with
        | cons v st => cases e
        | nil =>
          rw [bKR_n hs]
          exact harr V S d mi pc ls lc h d' f hd (by omega) hx hS hl e
set_option maxRecDepth 100000 in
theorem zbc_s {cut : Nat → Bool} {arr : Nat → Nat → Nat → bS → bLs → Bool} (harr : bArr E tb W h0 V0 B Q arr) (hsm : bSO E tb B sm) (hsc : bSC E V0 sc) (hfin : bFin E tb W h0 V0 Q fin) : ∀ F, bIH E tb W h0 V0 B Q (zbc W sm sc tb cut arr fin F)
  | 0 => fun _ _ _ _ _ _ _ _ e => nomatch (show false = true from e)
  | F + 1 => bbody_s harr (zbc_s harr hsm hsc hfin F) hsm hsc hfin
end BSTEP
