section CM
variable {E : zE} {B F : Nat} {h0 : zH} {L : Nat}
set_option maxRecDepth 100000 in
theorem bcs_lt {s e k : Nat} {v y g pl i w : Int} (h : s < L) : bcs (k9 L s e v y g pl i w k) [(-1, [(0, 1), (1, -1)])] := bcs_c rfl (by show 0 ≤ -1 + (1 * (L : Int) + ((-1) * (s : Int) + 0)); omega) bcs_n
set_option maxRecDepth 100000 in
theorem cmp_90 (hE : E.1 < 2147483648) (hsm : bSO E ctb B (60, smT)) (hb9 : ∀ i, 0 ≤ tp2 h0 i ∧ tp2 h0 i ≤ 255) (hF : 1000000 ≤ F) (hL4 : L ≤ 400) {n e : Nat} (hs : e ≤ L) (hc : sk isBl (tp2 h0) L e = e) {o : Nat ⊕ Nat} {g : Int} (hg : g = -1 ∨ g = 1022 ∨ g = 1023) {B2 : Nat} (hB2 : B ≤ B2) (hn : n ≤ 399)
    (ih : ∀ g' : Int, ((sqs (tp2 h0) L e 43 = true ∧ g' = g) ∨ (sqs (tp2 h0) L e 43 = false ∧ g = -1 ∧ (sqs (tp2 h0) L e 60 || sqs (tp2 h0) L e 62) = true ∧ (g' = 1022 ∨ g' = 1023))) → ∀ (x2 x3 x4 : Int32) (u : Option Value) (h : zH) (pl : Int), x2.toInt = g' → x3.toInt = pl → 0 ≤ pl ∧ pl ≤ 1 → x4.toInt = ((n + 1 : Nat) : Int) → bRQ ctb wC h0 0 0 h → CT h (tp2 h0) L (nxt (tp2 h0) L e) → ∀ d f, 61 ≤ d → B2 ≤ f → cvQ h0 L o (zex E f d 164 7 (kls x2 x3 x4 u) [] h))
    (o1 : sqs (tp2 h0) L e 43 = false → g ≠ -1 → o = .inl e) (o2 : sqs (tp2 h0) L e 43 = false → g = -1 → (sqs (tp2 h0) L e 60 || sqs (tp2 h0) L e 62) = false → o = .inr e)
    {x2 x3 x4 : Int32} {u : Option Value} {h : zH} {pl : Int} (g2 : x2.toInt = g) (g3 : x3.toInt = pl) (hp : 0 ≤ pl ∧ pl ≤ 1) (g4 : x4.toInt = (n : Int)) (hr : bRQ ctb wC h0 0 0 h) (ht : CT h (tp2 h0) L e) :
    ∀ d f, 61 ≤ d → B2 + F * 903 ≤ f → cvQ h0 L o (zex E f d 164 90 (kls x2 x3 x4 u) [] h) := by
  intro d f hd hf
  have hmul : F * 903 = F * 902 + F := Nat.mul_succ F 902
  have hf1 : B2 + F * 902 + 1000000 ≤ f := by omega
  have hf2 : B + 1000000 ≤ f := by omega
  have he := kE_b hs hc
  have hk3 := kK_b (tp2 h0) L e
  have hy9 := hb9 e
  have env : ∀ {ey eg ek : Int × Int} {y : Int}, ey.1 ≤ y ∧ y ≤ ey.2 → eg.1 ≤ g ∧ g ≤ eg.2 → ek.1 ≤ (kK (tp2 h0) L e : Int) ∧ (kK (tp2 h0) L e : Int) ≤ ek.2 → benv (k9 L e (kE (tp2 h0) L e) (kV (tp2 h0) L e) y g pl (n : Int) 0 (kK (tp2 h0) L e)) (kE9 ag_MX ey eg kW kI ek) := fun a b c => k_env hL4 (by omega) (by omega) kV_bb a b hp ⟨by show (0 : Int) ≤ _; omega, by show _ ≤ (399 : Int); omega⟩ ⟨by decide, by decide⟩ c
  have lt : kK (tp2 h0) L e = 3 → e < L := fun z => by
    by_cases h9 : L ≤ e
    · have := (kK_0 (T := tp2 h0)).mpr h9; omega
    · omega
  by_cases hpl : sqs (tp2 h0) L e 43 = true
  · obtain ⟨a1, a2⟩ := sqs_K3.mp hpl
    refine k_one hE hsm hr ht (y := tp2 h0 e) (env (ey := (43, 43)) (eg := kGA) (ek := (3, 3)) ⟨by show (43 : Int) ≤ _; omega, by show _ ≤ (43 : Int); omega⟩ ⟨by show (-1 : Int) ≤ _; omega, by show _ ≤ (1023 : Int); omega⟩ ⟨by show (3 : Int) ≤ _; omega, by show _ ≤ (3 : Int); omega⟩) (bcs_lt (lt a1)) (bov_app (k_ov ht) (k_ob hr)) (k_al g2 g3 g4) kc_5 rfl (B' := B2 + F * 902) (by omega) ?_ d f hd hf1
    intro ls' h2 j1 j2 j3 d f hd hf
    obtain ⟨z2, z3, z4, u', e1, e2, e3, e4⟩ := k_als j1
    rw [e1]
    unfold mv at e2 e4
    rw [bvx_v] at e2 e4
    rw [bvx_k] at e3
    exact cmp_162 hE hsm hb9 hF hL4 hs hc (g := g) (by omega) hB2 (ih g (Or.inl ⟨hpl, rfl⟩)) e2 e3 ⟨by decide, by decide⟩ e4 hn j2 j3 d f hd hf
  · have hpf : sqs (tp2 h0) L e 43 = false := by
      cases hz : sqs (tp2 h0) L e 43 with
      | true => exact absurd hz hpl
      | false => rfl
    have hne : kK (tp2 h0) L e = 3 → tp2 h0 e ≠ 43 := fun a b => hpl (sqs_K3.mpr ⟨a, b⟩)
    by_cases hg1 : g = -1
    · have hgm : (-1 : Int) ≤ g ∧ g ≤ -1 := by omega
      by_cases hk : kK (tp2 h0) L e ≤ 2
      · have h60 : (sqs (tp2 h0) L e 60 || sqs (tp2 h0) L e 62) = false := by
          rw [Bool.or_eq_false_iff]
          constructor
          · cases hz : sqs (tp2 h0) L e 60 with
            | false => rfl
            | true => have := (sqs_K3.mp hz).1; omega
          · cases hz : sqs (tp2 h0) L e 62 with
            | false => rfl
            | true => have := (sqs_K3.mp hz).1; omega
        exact k_fin0 hE hsm hr ht (y := 0) (env (ey := kY) (eg := (-1, -1)) (ek := (0, 2)) ⟨by decide, by decide⟩ hgm ⟨by show (0 : Int) ≤ _; omega, by show _ ≤ (2 : Int); omega⟩) bcs_n (k_ov ht) (k_al g2 g3 g4) kc_7a (o2 hpf hg1 h60) d f hd hf2
      · have hK3 : kK (tp2 h0) L e = 3 := by omega
        have hk33 : ((3, 3) : Int × Int).1 ≤ (kK (tp2 h0) L e : Int) ∧ (kK (tp2 h0) L e : Int) ≤ ((3, 3) : Int × Int).2 := ⟨by show (3 : Int) ≤ _; omega, by show _ ≤ (3 : Int); omega⟩
        have h43 := hne hK3
        by_cases h60 : tp2 h0 e = 60
        · have hor : (sqs (tp2 h0) L e 60 || sqs (tp2 h0) L e 62) = true := by rw [sqs_K3.mpr ⟨hK3, h60⟩, Bool.true_or]
          refine k_one hE hsm hr ht (y := tp2 h0 e) (env (ey := (60, 60)) (eg := (-1, -1)) (ek := (3, 3)) ⟨by show (60 : Int) ≤ _; omega, by show _ ≤ (60 : Int); omega⟩ hgm hk33) (bcs_lt (lt hK3)) (bov_app (k_ov ht) (k_ob hr)) (k_al g2 g3 g4) kc_8a rfl (B' := B2 + F * 902) (by omega) ?_ d f hd hf1
          intro ls' h2 j1 j2 j3 d f hd hf
          obtain ⟨z2, z3, z4, u', e1, e2, e3, e4⟩ := k_als j1
          rw [e1]
          unfold mv at e4
          rw [bvx_v] at e4
          rw [bvx_k] at e2 e3
          exact cmp_162 hE hsm hb9 hF hL4 hs hc (g := 1022) (by omega) hB2 (ih 1022 (Or.inr ⟨hpf, hg1, hor, Or.inl rfl⟩)) e2 e3 ⟨by decide, by decide⟩ e4 hn j2 j3 d f hd hf
        · by_cases h62 : tp2 h0 e = 62
          · have hor : (sqs (tp2 h0) L e 60 || sqs (tp2 h0) L e 62) = true := by rw [sqs_K3.mpr ⟨hK3, h62⟩, Bool.or_true]
            refine k_one hE hsm hr ht (y := tp2 h0 e) (env (ey := (62, 62)) (eg := (-1, -1)) (ek := (3, 3)) ⟨by show (62 : Int) ≤ _; omega, by show _ ≤ (62 : Int); omega⟩ hgm hk33) (bcs_lt (lt hK3)) (bov_app (k_ov ht) (k_ob hr)) (k_al g2 g3 g4) kc_8b rfl (B' := B2 + F * 902) (by omega) ?_ d f hd hf1
            intro ls' h2 j1 j2 j3 d f hd hf
            obtain ⟨z2, z3, z4, u', e1, e2, e3, e4⟩ := k_als j1
            rw [e1]
            unfold mv at e4
            rw [bvx_v] at e4
            rw [bvx_k] at e2 e3
            exact cmp_162 hE hsm hb9 hF hL4 hs hc (g := 1023) (by omega) hB2 (ih 1023 (Or.inr ⟨hpf, hg1, hor, Or.inr rfl⟩)) e2 e3 ⟨by decide, by decide⟩ e4 hn j2 j3 d f hd hf
          · have hor : (sqs (tp2 h0) L e 60 || sqs (tp2 h0) L e 62) = false := by
              rw [Bool.or_eq_false_iff]
              constructor
              · cases hz : sqs (tp2 h0) L e 60 with
                | false => rfl
                | true => exact absurd (sqs_K3.mp hz).2 h60
              · cases hz : sqs (tp2 h0) L e 62 with
                | false => rfl
                | true => exact absurd (sqs_K3.mp hz).2 h62
            have ho := o2 hpf hg1 hor
            by_cases r1 : tp2 h0 e ≤ 42
            · exact k_fin0 hE hsm hr ht (y := tp2 h0 e) (env (ey := (0, 42)) (eg := (-1, -1)) (ek := (3, 3)) ⟨hy9.1, r1⟩ hgm hk33) (bcs_lt (lt hK3)) (bov_app (k_ov ht) (k_ob hr)) (k_al g2 g3 g4) kc_7b (ho) d f hd hf2
            · by_cases r2 : tp2 h0 e ≤ 59
              · exact k_fin0 hE hsm hr ht (y := tp2 h0 e) (env (ey := (44, 59)) (eg := (-1, -1)) (ek := (3, 3)) ⟨by show (44 : Int) ≤ _; omega, r2⟩ hgm hk33) (bcs_lt (lt hK3)) (bov_app (k_ov ht) (k_ob hr)) (k_al g2 g3 g4) kc_7c (ho) d f hd hf2
              · by_cases r3 : tp2 h0 e ≤ 61
                · exact k_fin0 hE hsm hr ht (y := tp2 h0 e) (env (ey := (61, 61)) (eg := (-1, -1)) (ek := (3, 3)) ⟨by show (61 : Int) ≤ _; omega, r3⟩ hgm hk33) (bcs_lt (lt hK3)) (bov_app (k_ov ht) (k_ob hr)) (k_al g2 g3 g4) kc_7d (ho) d f hd hf2
                · exact k_fin0 hE hsm hr ht (y := tp2 h0 e) (env (ey := (63, 255)) (eg := (-1, -1)) (ek := (3, 3)) ⟨by show (63 : Int) ≤ _; omega, hy9.2⟩ hgm hk33) (bcs_lt (lt hK3)) (bov_app (k_ov ht) (k_ob hr)) (k_al g2 g3 g4) kc_7e (ho) d f hd hf2
    · have hgm : (1022 : Int) ≤ g ∧ g ≤ 1023 := by omega
      have ho := o1 hpf hg1
      by_cases hk : kK (tp2 h0) L e ≤ 2
      · exact k_fin1 hE hsm hr ht (y := 0) (env (ey := kY) (eg := (1022, 1023)) (ek := (0, 2)) ⟨by decide, by decide⟩ hgm ⟨by show (0 : Int) ≤ _; omega, by show _ ≤ (2 : Int); omega⟩) bcs_n (k_ov ht) (k_al g2 g3 g4) kc_6a (ho) d f hd hf2
      · have hK3 : kK (tp2 h0) L e = 3 := by omega
        have hk33 : ((3, 3) : Int × Int).1 ≤ (kK (tp2 h0) L e : Int) ∧ (kK (tp2 h0) L e : Int) ≤ ((3, 3) : Int × Int).2 := ⟨by show (3 : Int) ≤ _; omega, by show _ ≤ (3 : Int); omega⟩
        have h43 := hne hK3
        by_cases r1 : tp2 h0 e ≤ 42
        · exact k_fin1 hE hsm hr ht (y := tp2 h0 e) (env (ey := (0, 42)) (eg := (1022, 1023)) (ek := (3, 3)) ⟨hy9.1, r1⟩ hgm hk33) (bcs_lt (lt hK3)) (bov_app (k_ov ht) (k_ob hr)) (k_al g2 g3 g4) kc_6b (ho) d f hd hf2
        · exact k_fin1 hE hsm hr ht (y := tp2 h0 e) (env (ey := (44, 255)) (eg := (1022, 1023)) (ek := (3, 3)) ⟨by show (44 : Int) ≤ _; omega, hy9.2⟩ hgm hk33) (bcs_lt (lt hK3)) (bov_app (k_ov ht) (k_ob hr)) (k_al g2 g3 g4) kc_6c (ho) d f hd hf2
end CM
