def lwN : bNd := (23, [some (.inr (.inl (.float 0))), some (.inr (.inl (.ref 0))), some (.inr (.inl (.ref 84))), some (.inr (.inl (.ref 94))), some (.inl (0, [(1, 1)])), none, none], [(0, 3072), (0, 3072), (0, 400), (0, 1)], [], [(1, 1, (0, [(2, 1)])), (84, 9, (0, [(2, 1)])), (30, 4, (0, [(3, 1)])), (84, 6, (0, [(3, 1)]))], (0, [(1, 4)]), (0, [(1, 400)]), (3072, [(1, (-1))]))
noncomputable def lwF (S : bS) (v : Option bV) : Bool := match v with
  | some (.inl f) => cond (bfq f (1, [])) (bcg S (.ofNat 13000, []) (.ofNat 1300000, [])) false
  | _ => false
def lwW : Nat := 4149515568880992958512407863691161151012446232242436899995657329690652811412908146399707048947103794288197886611300789182395151075411775307886874834113963687061181803401509523685375
set_option maxRecDepth 100000 in
theorem lw_turn : zst lwW (60, smT) (some (0, [(0, 1)])) ctb lwF 1 60 0 1000000 [lwN] lwN = true := by decide +kernel
def lwQ (h0 : zH) (o : Option zR) : Prop := ∃ h', o = some (.inl (some (.int 1)), h') ∧ h'.2.2.2.1 ≤ h0.2.2.2.1 + 13000 ∧ h'.2.2.2.2 ≤ h0.2.2.2.2 + 1300000
set_option maxRecDepth 100000 in
theorem lw_fin {E : zE} {h0 : zH} {V0 : List Int} : bFin E ctb lwW h0 V0 (lwQ h0) lwF := by
  intro V S v w h hx hS hv e
  unfold lwF at e
  split at e
  · rename_i f
    obtain ⟨e1, e2⟩ := bcnd e
    have e1 := bfq_s e1
    subst e1
    have hc : (h.2.2.2.1 : Int) ≤ (h0.2.2.2.1 : Int) + 13000 ∧ (h.2.2.2.2 : Int) ≤ (h0.2.2.2.2 : Int) + 1300000 := bcg_s hS (brel_c V _) (brel_c V _) e2
    cases w with
    | none => exact hv.elim
    | some w =>
      obtain ⟨x, h1, h2⟩ := hv
      have h2 := brel_k h2
      have h3 : x = 1 := Int32.toInt_inj.mp (by rw [h2]; decide)
      subst h1
      subst h3
      exact ⟨h, rfl, by omega, by omega⟩
  · cases e
set_option maxRecDepth 100000 in
theorem lw_all {E : zE} (hE : E.1 ≤ 3072) {B : Nat} (hsm : bSO E ctb B (60, smT)) {h : zH} (hI : bHI h) (hP : bPS h) (hT : bTB ctb h.1) (z1 : (h.2.1 1 1).toInt = 0) (z2 : (h.2.1 84 9).toInt = 0) (z3 : (h.2.1 30 4).toInt = 0) (z4 : (h.2.1 84 6).toInt = 0) {w5 w6 : Option Value} :
    ∀ d f, 60 ≤ d → B + 1000000 * 3073 ≤ f → lwQ h (zex E f d 0 23 [some (.float 0), some (.ref 0), some (.ref 84), some (.ref 94), some (.int 0), w5, w6] [] h) := by
  intro d f hd hf
  have hlt : E.1 < 2147483648 := by omega
  have hg : bGd E ctb lwW h [(E.1 : Int)] B (lwQ h) 60 0 1000000 [lwN] lwN := zst_s (V0 := [(E.1 : Int)]) hsm ⟨hlt, fun N hN => by cases hN; exact brel_v rfl⟩ lw_fin lw_turn
  have hl : bLR [(E.1 : Int), 0, 0, 0] [some (.inr (.inl (.float 0))), some (.inr (.inl (.ref 0))), some (.inr (.inl (.ref 84))), some (.inr (.inl (.ref 94))), some (.inl (0, [(1, 1)])), none, none] [some (.float 0), some (.ref 0), some (.ref 84), some (.ref 94), some (.int 0), w5, w6] := ⟨⟨_, rfl, rfl⟩, ⟨_, rfl, rfl⟩, ⟨_, rfl, rfl⟩, ⟨_, rfl, rfl⟩, ⟨_, rfl, 0, rfl, brel_v rfl⟩, trivial, trivial, trivial⟩
  refine bcut (L := [lwN]) (fun N hN => ?_) 3073 lwN hg [(E.1 : Int), 0, 0, 0] _ h 3072 ⟨⟨[0, 0, 0], rfl⟩, hl, ⟨benv_c (by omega) (by omega) (benv_c (by omega) (by omega) (benv_c (by omega) (by omega) (benv_c (by omega) (by omega) benv_n))), rfl, fun C hC => absurd hC List.not_mem_nil, fun C hC => absurd hC List.not_mem_nil, hI, hP, hT, fun _ _ _ => rfl, ⟨0, ?_, by omega⟩, ⟨0, ?_, by omega⟩⟩, ?_⟩ ?_ (by omega) (by omega) d f hd hf
  · cases hN with
    | head => exact hg
    | tail _ hN => exact absurd hN List.not_mem_nil
  · exact brel_1c (V := [(E.1 : Int), 0, 0, 0]) (i := 1) (c := 0) (a := 4) (v := 0) rfl
  · exact brel_1c (V := [(E.1 : Int), 0, 0, 0]) (i := 1) (c := 0) (a := 400) (v := 0) rfl
  · intro e he
    cases he with
    | head =>
      show brel _ (0, [(2, 1)]) (bvl E h 1 1)
      rw [bvl_n (show Nat.blt 1 900 = true from rfl), z1]
      exact brel_v rfl
    | tail _ he =>
      cases he with
      | head =>
        show brel _ (0, [(2, 1)]) (bvl E h 84 9)
        rw [bvl_n (show Nat.blt 84 900 = true from rfl), z2]
        exact brel_v rfl
      | tail _ he =>
        cases he with
        | head =>
          show brel _ (0, [(3, 1)]) (bvl E h 30 4)
          rw [bvl_n (show Nat.blt 30 900 = true from rfl), z3]
          exact brel_v rfl
        | tail _ he =>
          cases he with
          | head =>
            show brel _ (0, [(3, 1)]) (bvl E h 84 6)
            rw [bvl_n (show Nat.blt 84 900 = true from rfl), z4]
            exact brel_v rfl
          | tail _ he => exact absurd he List.not_mem_nil
  · exact brel_1c (V := [(E.1 : Int), 0, 0, 0]) (i := 1) (c := 3072) (a := -1) (v := 0) rfl
