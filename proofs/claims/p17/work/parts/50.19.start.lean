/-! THE START: what the Statement gives of the law's entry is the world that the evaluator stands in -/
abbrev zfl : List Cond := flatC (Jvm.Cond.and given_1 narrow_1)
def zsp : List Nat := [111, 161, 191, 225, 251, 276, 282, 289, 320, 327, 363, 370, 376, 408, 433, 456, 483, 508, 531, 553, 577, 593, 631, 653, 661, 668, 677, 687, 694, 703, 711, 721, 729, 737, 745, 754, 762, 770, 779, 787, 795, 804, 811, 819, 827, 836, 844, 852]
def zstm (own : String) (k : Nat) : Term := .string own k
def zsc (own : String) (k : Nat) (bs : List Int32) : List Cond :=
  Cond.exactly (zstm own k) "java/lang/String" :: Cond.eq (.field (zstm own k) "java/lang/String" "coder" "B") (.int 0) :: Cond.arrayOf (.field (zstm own k) "java/lang/String" "value" "[B") .byte ::
  Cond.eq (.length (.field (zstm own k) "java/lang/String" "value" "[B")) (.int (Int32.ofNat bs.length)) :: (List.range bs.length).map fun j => Cond.eq (.elem (.field (zstm own k) "java/lang/String" "value" "[B") (.int (Int32.ofNat j))) (.int (bs.getD j 0))
def zsok (i : Nat) : Bool := match zat zsref i, zat zstrs i, zat zsp i with
  | some (o, k, tx), some bs, some p => decide ((zfl.drop p).take (4 + bs.length) = zsc o k bs) && decide (Cond.stringRef o k tx ∈ lw_tbl) && Nat.blt bs.length 2147483648
  | _, _, _ => false
set_option maxRecDepth 100000 in
set_option maxRecDepth 100000 in
theorem zsok0 : (List.range' 0 8).all zsok = true := by decide +kernel
set_option maxRecDepth 100000 in
set_option maxRecDepth 100000 in
theorem zsok8 : (List.range' 8 8).all zsok = true := by decide +kernel
set_option maxRecDepth 100000 in
set_option maxRecDepth 100000 in
theorem zsok16 : (List.range' 16 8).all zsok = true := by decide +kernel
set_option maxRecDepth 100000 in
set_option maxRecDepth 100000 in
theorem zsok24 : (List.range' 24 8).all zsok = true := by decide +kernel
set_option maxRecDepth 100000 in
set_option maxRecDepth 100000 in
theorem zsok32 : (List.range' 32 8).all zsok = true := by decide +kernel
set_option maxRecDepth 100000 in
set_option maxRecDepth 100000 in
theorem zsok40 : (List.range' 40 8).all zsok = true := by decide +kernel
set_option maxRecDepth 100000 in
theorem zsok_all (i : Nat) (h : i < 48) : zsok i = true := by
  by_cases h0 : i < 8
  · exact List.all_eq_true.mp zsok0 i (List.mem_range'_1.mpr (by omega))
  by_cases h8 : i < 16
  · exact List.all_eq_true.mp zsok8 i (List.mem_range'_1.mpr (by omega))
  by_cases h16 : i < 24
  · exact List.all_eq_true.mp zsok16 i (List.mem_range'_1.mpr (by omega))
  by_cases h24 : i < 32
  · exact List.all_eq_true.mp zsok24 i (List.mem_range'_1.mpr (by omega))
  by_cases h32 : i < 40
  · exact List.all_eq_true.mp zsok32 i (List.mem_range'_1.mpr (by omega))
  by_cases h40 : i < 48
  · exact List.all_eq_true.mp zsok40 i (List.mem_range'_1.mpr (by omega))
  omega
set_option maxRecDepth 100000 in
theorem zsref_len : zsref.length = 48 := by decide +kernel
set_option maxRecDepth 100000 in
theorem zstrs_len : zstrs.length = 48 := by decide +kernel
set_option maxRecDepth 100000 in
theorem zstart_str {s : State} {args : Array Value} (hts : ∀ w ∈ lw_tbl, w.before args s = true) (hgv : (Jvm.Cond.and given_1 narrow_1).before args s = true) {A : Nat → Prop} (hA : ∀ a : Nat, a < s.heap.size → ¬ A a) :
    ∃ adK : Nat → Nat, (∀ i o k tx, zat zsref i = some (o, k, tx) → vk_R o k tx (adK i) s) ∧ (∀ i bs, zat zstrs i = some bs → zStr A s s.heap bs (adK i)) := by
  have hs := flat_of_before _ hgv
  have h0 : ∀ i : Nat, ∃ a : Nat, (∀ o k tx, zat zsref i = some (o, k, tx) → vk_R o k tx a s) ∧ (∀ bs, zat zstrs i = some bs → zStr A s s.heap bs a) := by
    intro i
    by_cases hi : i < 48
    · have h1 := zsok_all i hi
      unfold zsok at h1
      split at h1
      · rename_i o k tx bs p e1 e2 e3
        simp only [Bool.and_eq_true, decide_eq_true_eq] at h1
        obtain ⟨⟨h2, h3⟩, h4⟩ := h1
        have h5 : ∀ w ∈ zsc o k bs, w.before args s = true := by
          intro w hw
          rw [← h2] at hw
          exact hs w (List.mem_of_mem_drop (List.mem_of_mem_take hw))
        have hex := h5 _ List.mem_cons_self
        have hco := h5 _ (List.mem_cons_of_mem _ List.mem_cons_self)
        have har := h5 _ (List.mem_cons_of_mem _ (List.mem_cons_of_mem _ List.mem_cons_self))
        have hle := h5 _ (List.mem_cons_of_mem _ (List.mem_cons_of_mem _ (List.mem_cons_of_mem _ List.mem_cons_self)))
        have hel : ∀ j : Nat, j < bs.length → (Cond.eq (.elem (.field (zstm o k) "java/lang/String" "value" "[B") (.int (Int32.ofNat j))) (.int (bs.getD j 0))).before args s = true := fun j hj =>
          h5 _ (List.mem_cons_of_mem _ (List.mem_cons_of_mem _ (List.mem_cons_of_mem _ (List.mem_cons_of_mem _ (List.mem_map.mpr ⟨j, List.mem_range.mpr hj, rfl⟩)))))
        obtain ⟨a, c, cA, kA, q1, q2, q3, q4, q5, q6, -⟩ := Cond.exactly_spec (args := args) (first := s) (o := none) (s := s) (idx := []) (t := zstm o k) (cls := "java/lang/String") hex
        obtain ⟨t, ht, hT⟩ := va_Tof (f := fun j => .int (bs.getD j 0)) (A := A) (N := bs.length) (Nat.le_of_ble_eq_true h4) har (va_eqt hle) (fun j hj => va_eqt (hel j hj)) hA
        refine ⟨a, fun o' k' tx' e4 => ?_, fun bs' e5 => ?_⟩
        · rw [e1] at e4
          cases e4
          exact vk_R.of (hts _ h3) q1
        · rw [e2] at e5
          cases e5
          exact ⟨t, ⟨cA, q3, q5, by rw [q6]; exact q2, hA a (Array.getElem?_eq_some_iff.mp q3).1⟩, vk_OFof q1 (va_eqt hco) hA, vk_OFof q1 ht hA, hT⟩
      · cases h1
    · refine ⟨0, fun o k tx e1 => ?_, fun bs e2 => ?_⟩
      · rw [zat_eq, List.getElem?_eq_none (by rw [zsref_len]; omega)] at e1
        cases e1
      · rw [zat_eq, List.getElem?_eq_none (by rw [zstrs_len]; omega)] at e2
        cases e2
  obtain ⟨ad, had⟩ := Classical.axiomOfChoice h0
  exact ⟨ad, fun i => (had i).1, fun i => (had i).2⟩
set_option maxRecDepth 100000 in
theorem zcl_len : vwCl.length = 13 := by decide +kernel
set_option maxRecDepth 100000 in
theorem zstart_cl {s : State} {args : Array Value} (hts : ∀ w ∈ lw_tbl, w.before args s = true) : ∀ (k : Nat) (q : vw_C), vwCl[k]? = some q → ∃ (c : ClassId) (f : Nat → Nat), u_Kn s q.1 q.2.1 q.2.2 c f := fun k q hq => match k, hq with
  | 0, hq => by
    cases hq
    obtain ⟨c, f, h⟩ := u_known (C := RX0) (T := TX0) (N := 13) (n := 13) hts inX0 (hts (.instantiable RX0 13) (by decide +kernel))
    exact ⟨c, f, h⟩
  | 1, hq => by
    cases hq
    obtain ⟨c, f, h⟩ := u_known (C := RX1) (T := TX1) (N := 3) (n := 3) hts inX1 (hts (.instantiable RX1 3) (by decide +kernel))
    exact ⟨c, f, h⟩
  | 2, hq => by
    cases hq
    obtain ⟨c, f, h⟩ := u_known (C := RX2) (T := TX2) (N := 3) (n := 3) hts inX2 (hts (.instantiable RX2 3) (by decide +kernel))
    exact ⟨c, f, h⟩
  | 3, hq => by
    cases hq
    obtain ⟨c, f, h⟩ := u_known (C := RX3) (T := TX3) (N := 6) (n := 6) hts inX3 (hts (.instantiable RX3 6) (by decide +kernel))
    exact ⟨c, f, h⟩
  | 4, hq => by
    cases hq
    obtain ⟨c, f, h⟩ := u_known (C := RX4) (T := TX4) (N := 5) (n := 5) hts inX4 (hts (.instantiable RX4 5) (by decide +kernel))
    exact ⟨c, f, h⟩
  | 5, hq => by
    cases hq
    obtain ⟨c, f, h⟩ := u_known (C := RX5) (T := TX5) (N := 8) (n := 8) hts inX5 (hts (.instantiable RX5 8) (by decide +kernel))
    exact ⟨c, f, h⟩
  | 6, hq => by
    cases hq
    obtain ⟨c, f, h⟩ := u_known (C := RX6) (T := TX6) (N := 2) (n := 2) hts inX6 (hts (.instantiable RX6 2) (by decide +kernel))
    exact ⟨c, f, h⟩
  | 7, hq => by
    cases hq
    obtain ⟨c, f, h⟩ := u_known (C := RX7) (T := TX7) (N := 4) (n := 4) hts inX7 (hts (.instantiable RX7 4) (by decide +kernel))
    exact ⟨c, f, h⟩
  | 8, hq => by
    cases hq
    obtain ⟨c, f, h⟩ := u_known (C := RX8) (T := TX8) (N := 9) (n := 9) hts inX8 (hts (.instantiable RX8 9) (by decide +kernel))
    exact ⟨c, f, h⟩
  | 9, hq => by
    cases hq
    obtain ⟨c, f, h⟩ := u_known (C := RX9) (T := TX9) (N := 6) (n := 6) hts inX9 (hts (.instantiable RX9 6) (by decide +kernel))
    exact ⟨c, f, h⟩
  | 10, hq => by
    cases hq
    obtain ⟨c, f, h⟩ := u_known (C := RX10) (T := TX10) (N := 2) (n := 2) hts inX10 (hts (.instantiable RX10 2) (by decide +kernel))
    exact ⟨c, f, h⟩
  | 11, hq => by
    cases hq
    obtain ⟨c, f, h⟩ := u_known (C := RX11) (T := TX11) (N := 10) (n := 10) hts inX11 (hts (.instantiable RX11 10) (by decide +kernel))
    exact ⟨c, f, h⟩
  | 12, hq => by
    cases hq
    obtain ⟨c, f, h⟩ := u_known (C := RX12) (T := TX12) (N := 19) (n := 19) hts inX12 (hts (.instantiable RX12 19) (by decide +kernel))
    exact ⟨c, f, h⟩
  | k + 13, hq => by simp [vwCl] at hq
set_option maxRecDepth 100000 in
theorem zstart_D {s : State} {args : Array Value} (hts : ∀ w ∈ lw_tbl, w.before args s = true) : ∃ D : va_G, va_K D vwCl [] s := by
  have h0 : ∀ k : Nat, ∃ p : ClassId × (Nat → Nat), ∀ q : vw_C, vwCl[k]? = some q → u_Kn s q.1 q.2.1 q.2.2 p.1 p.2 := by
    intro k
    cases hk : vwCl[k]? with
    | none => exact ⟨(0, fun _ => 0), fun q hq => by cases hq⟩
    | some q =>
      obtain ⟨c, f, h⟩ := zstart_cl hts k q hk
      exact ⟨(c, f), fun q' hq => by cases hq; exact h⟩
  obtain ⟨f, hf⟩ := Classical.axiomOfChoice h0
  exact ⟨(fun k => (f k).1, fun k => (f k).2), fun k q hq => hf k q hq, fun k q h => by simp at h⟩
def zh0 : zH := ([], fun _ _ => 0, fun _ _ => 0, 0, 0)
set_option maxRecDepth 100000 in
theorem zstart_nc {s : State} {args : Array Value} (hgv : (Jvm.Cond.and given_1 narrow_1).before args s = true) : ∀ x y X Y, zat zxn x = some X → zat zxn y = some Y → x ≠ y → va_Nc X Y s := by
  have hs := flat_of_before _ hgv
  intro x y X Y hx hy
  match x, y, hx, hy with
  | 0, 0, hx, hy => exact fun hn => absurd rfl hn
  | 0, 1, hx, hy => exact fun _ => by cases hx; cases hy; exact va_Nc.of (hs _ (by decide +kernel))
  | 0, 2, hx, hy => exact fun _ => by cases hx; cases hy; exact va_Nc.of (hs _ (by decide +kernel))
  | 0, 3, hx, hy => exact fun _ => by cases hx; cases hy; exact va_Nc.of (hs _ (by decide +kernel))
  | 1, 0, hx, hy => exact fun _ => by cases hx; cases hy; exact va_Nc.of (hs _ (by decide +kernel))
  | 1, 1, hx, hy => exact fun hn => absurd rfl hn
  | 1, 2, hx, hy => exact fun _ => by cases hx; cases hy; exact va_Nc.of (hs _ (by decide +kernel))
  | 1, 3, hx, hy => exact fun _ => by cases hx; cases hy; exact va_Nc.of (hs _ (by decide +kernel))
  | 2, 0, hx, hy => exact fun _ => by cases hx; cases hy; exact va_Nc.of (hs _ (by decide +kernel))
  | 2, 1, hx, hy => exact fun _ => by cases hx; cases hy; exact va_Nc.of (hs _ (by decide +kernel))
  | 2, 2, hx, hy => exact fun hn => absurd rfl hn
  | 2, 3, hx, hy => exact fun _ => by cases hx; cases hy; exact va_Nc.of (hs _ (by decide +kernel))
  | 3, 0, hx, hy => exact fun _ => by cases hx; cases hy; exact va_Nc.of (hs _ (by decide +kernel))
  | 3, 1, hx, hy => exact fun _ => by cases hx; cases hy; exact va_Nc.of (hs _ (by decide +kernel))
  | 3, 2, hx, hy => exact fun _ => by cases hx; cases hy; exact va_Nc.of (hs _ (by decide +kernel))
  | 3, 3, hx, hy => exact fun hn => absurd rfl hn
  | x + 4, _, hx, _ => exact absurd (show (none : Option String) = some X from hx) (fun z => nomatch z)
  | _, y + 4, _, hy => exact absurd (show (none : Option String) = some Y from hy) (fun z => nomatch z)
set_option maxRecDepth 100000 in
theorem sbn_forget {s s' : State} {L : List Loc} {k n k' n' : Nat} (h : s.sameButNew s' L k n) (hL : ∀ z ∈ L, s.heap.size ≤ z.base) (hk : k ≤ k') (hn : n ≤ n') : s.sameButNew s' [] k' n' := by
  obtain ⟨h1, h2, h3, h4, h5, h6⟩ := h
  refine ⟨h1, h2, by omega, h4, by omega, fun a c ha => ?_⟩
  obtain ⟨c', g1, g2, g3, g4⟩ := h6 a c ha
  refine ⟨c', g1, g2, g3, fun i _ => g4 i (fun hm => ?_)⟩
  have h7 : s.heap.size ≤ a := hL _ hm
  have h8 := (Array.getElem?_eq_some_iff.mp ha).1
  omega
