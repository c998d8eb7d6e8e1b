section CN
variable {E : zE} {B F G : Nat} {h0 : zH} {L : Nat}
set_option maxRecDepth 100000 in
theorem cmp_7 (hE : E.1 < 2147483648) (hsm : bSO E ctb B (60, smT)) (hb9 : ∀ i, 0 ≤ tp2 h0 i ∧ tp2 h0 i ≤ 255) (hF : 1000000 ≤ F) (hG : F * 2000 ≤ G) (hL4 : L ≤ 400) : ∀ (n s : Nat) (g : Int) (x2 x3 x4 : Int32) (u : Option Value) (h : zH) (pl : Int) (i : Nat), sk isBl (tp2 h0) L s = s → s ≤ L → L < s + n → (g = -1 ∨ g = 1022 ∨ g = 1023) → x2.toInt = g → x3.toInt = pl → 0 ≤ pl ∧ pl ≤ 1 → x4.toInt = (i : Int) → i ≤ s → bRQ ctb wC h0 0 0 h → CT h (tp2 h0) L s →
    ∀ d f, 61 ≤ d → B + G * (n + 1) ≤ f → cvQ h0 L (hdq (tp2 h0) L g n s) (zex E f d 164 7 (kls x2 x3 x4 u) [] h) := by
  intro n
  induction n with
  | zero => intro s g x2 x3 x4 u h pl i hc hs hn; omega
  | succ n IH =>
    intro s g x2 x3 x4 u h pl i hc hs hn hg g2 g3 hp g4 his hr ht d f hd hf
    have hmul : G * (n + 1 + 1) = G * (n + 1) + G := Nat.mul_succ G (n + 1)
    have he := kE_b hs hc
    have hk3 := kK_b (tp2 h0) L s
    have env : ∀ {ev ei ew ek : Int × Int} {w : Int}, ev.1 ≤ kV (tp2 h0) L s ∧ kV (tp2 h0) L s ≤ ev.2 → ei.1 ≤ (i : Int) ∧ (i : Int) ≤ ei.2 → ew.1 ≤ w ∧ w ≤ ew.2 → ek.1 ≤ (kK (tp2 h0) L s : Int) ∧ (kK (tp2 h0) L s : Int) ≤ ek.2 → benv (k9 L s (kE (tp2 h0) L s) (kV (tp2 h0) L s) 0 g pl (i : Int) w (kK (tp2 h0) L s)) (kE9 ev kY kGA ew ei ek) := fun a b c e9 => k_env hL4 (by omega) (by omega) a ⟨by decide, by decide⟩ ⟨by show (-1 : Int) ≤ _; omega, by show _ ≤ (1023 : Int); omega⟩ hp b c e9
    have hk03 : ((0, 3) : Int × Int).1 ≤ (kK (tp2 h0) L s : Int) ∧ (kK (tp2 h0) L s : Int) ≤ ((0, 3) : Int × Int).2 := ⟨by show (0 : Int) ≤ _; omega, by show _ ≤ (3 : Int); omega⟩
    by_cases hi : 400 ≤ i
    · have hK0 := (kK_0 (T := tp2 h0) (L := L) (s := s)).mpr (by omega)
      have hfac : facq (tp2 h0) L s = none := by
        cases hf9 : facq (tp2 h0) L s with
        | none => rfl
        | some e => exact absurd hK0 (facq_s hf9).2
      rw [hdq_n hfac]
      exact k_fin0 hE hsm hr ht (env (ev := ag_MX) (ei := (400, 400)) (ew := kW) (ek := (0, 3)) kV_bb ⟨by show (400 : Int) ≤ _; omega, by show _ ≤ (400 : Int); omega⟩ ⟨by show (-1 : Int) ≤ 0; decide, by show (0 : Int) ≤ 5; decide⟩ hk03) bcs_n (k_ov ht) (k_al g2 g3 g4) kc_h4 (rfl) d f hd (by omega)
    · have hiI : kI.1 ≤ (i : Int) ∧ (i : Int) ≤ kI.2 := ⟨by show (0 : Int) ≤ _; omega, by show _ ≤ (399 : Int); omega⟩
      -- from 86 on
      have cont : facq (tp2 h0) L s = some (nxt (tp2 h0) L s) → ∀ (x2 x3 x4 : Int32) (u : Option Value) (h : zH), x2.toInt = g → x3.toInt = pl → x4.toInt = (i : Int) → bRQ ctb wC h0 0 0 h → CT h (tp2 h0) L s → ∀ d f, 61 ≤ d → B + G * (n + 1) + F * 1810 ≤ f → cvQ h0 L (hdq (tp2 h0) L g (n + 1) s) (zex E f d 164 86 (kls x2 x3 x4 u) [] h) := by
        intro hfac x2 x3 x4 u h g2 g3 g4 hr ht d f hd hf
        have hKs := (facq_s hfac).2
        have hgt := nxt_gt hc hKs
        have hle := nxt_le (T := tp2 h0) hs
        obtain ⟨m, hm⟩ : ∃ m, f = m + 2 := ⟨f - 2, by omega⟩
        obtain ⟨d', hd'⟩ : ∃ d', d = d' + 1 := ⟨d - 1, by omega⟩
        subst hd'
        obtain ⟨h', k1, k2, k3, -⟩ := ks_adv hE hsm hb9 hF hL4 hs hc hr ht (x2 := x2) (x3 := x3) (x4 := x4) (u := u) d' m (by omega) (by omega)
        rw [hm, k3]
        have hsum := sumq_p (n := n) hfac
        refine cmp_90 hE hsm hb9 hF hL4 (n := i) hle nxt_c hg (B2 := B + G * (n + 1)) (Nat.le_add_right _ _) (by omega) ?_ ?_ ?_ g2 g3 hp g4 k1 k2 (d' + 1) m hd (by omega)
        · intro g' hg' y2 y3 y4 u' h2 pl' j2 j3 jp j4 j5 j6 d f hd hf
          rcases hg' with ⟨a1, a2⟩ | ⟨a1, a2, a3, a4⟩
          · have hgt2 := nxt_gt (nxt_c (T := tp2 h0) (s := s)) (sqs_K a1)
            have e9 : hdq (tp2 h0) L g (n + 1) s = hdq (tp2 h0) L g n (nxt (tp2 h0) L (nxt (tp2 h0) L s)) := by
              unfold hdq
              rw [hsum, if_pos a1]
            rw [e9]
            exact IH _ g y2 y3 y4 u' h2 pl' (i + 1) nxt_c (nxt_le hle) (by omega) hg (by rw [j2, a2]) j3 jp j4 (by omega) j5 j6 d f hd hf
          · have hKe : kK (tp2 h0) L (nxt (tp2 h0) L s) ≠ 0 := by
              rw [Bool.or_eq_true] at a3
              rcases a3 with z | z
              · exact sqs_K z
              · exact sqs_K z
            have hgt2 := nxt_gt (nxt_c (T := tp2 h0) (s := s)) hKe
            have e9 : hdq (tp2 h0) L g (n + 1) s = hdq (tp2 h0) L g' n (nxt (tp2 h0) L (nxt (tp2 h0) L s)) := by
              unfold hdq
              rw [if_pos a2, if_neg (by omega), hsum, if_neg (by rw [a1]; decide)]
              show (if (sqs (tp2 h0) L (nxt (tp2 h0) L s) 60 || sqs (tp2 h0) L (nxt (tp2 h0) L s) 62) = true then sumq (tp2 h0) L 401 (nxt (tp2 h0) L (nxt (tp2 h0) L s)) else .inr (nxt (tp2 h0) L s)) = _
              rw [if_pos a3]
              exact sumq_f 401 n _ nxt_c (by omega) (by omega)
            rw [e9]
            exact IH _ g' y2 y3 y4 u' h2 pl' (i + 1) nxt_c (nxt_le hle) (by omega) (Or.inr a4) j2 j3 jp j4 (by omega) j5 j6 d f hd hf
        · intro a1 a2
          unfold hdq
          rw [if_neg a2, hsum, if_neg (by rw [a1]; decide)]
        · intro a1 a2 a3
          unfold hdq
          rw [if_pos a2, hsum, if_neg (by rw [a1]; decide)]
          show (if (sqs (tp2 h0) L (nxt (tp2 h0) L s) 60 || sqs (tp2 h0) L (nxt (tp2 h0) L s) 62) = true then sumq (tp2 h0) L 401 (nxt (tp2 h0) L (nxt (tp2 h0) L s)) else .inr (nxt (tp2 h0) L s)) = _
          rw [a3]
          rfl
      refine k_one hE hsm hr ht (y := 0) (w := 0) (env (ev := ag_MX) (ei := kI) (ew := kW) (ek := (0, 3)) kV_bb hiI ⟨by show (-1 : Int) ≤ 0; decide, by show (0 : Int) ≤ 5; decide⟩ hk03) bcs_n (k_ov ht) (k_al g2 g3 g4) kc_h rfl (B' := B + G * (n + 1) + F * 1990) (by omega) ?_ d f hd (by omega)
      intro ls' h1 j1 j2 j3 d f hd hf
      obtain ⟨z2, z3, z4, u', e1, e2, e3, e4⟩ := k_als j1
      rw [e1]
      unfold mv at e2 e3 e4
      rw [bvx_v] at e2 e3 e4
      have e2 : z2.toInt = g := e2
      have e3 : z3.toInt = pl := e3
      have e4 : z4.toInt = (i : Int) := e4
      obtain ⟨m, hm⟩ : ∃ m, f = m + 4 := ⟨f - 4, by omega⟩
      obtain ⟨d', hd'⟩ : ∃ d', d = d' + 1 := ⟨d - 1, by omega⟩
      subst hd'
      obtain ⟨x, h2, w1, w2, w3, w4⟩ := ks_word hE hsm hb9 hF hL4 hs hc j2 j3 (x2 := z2) (x3 := z3) (x4 := z4) (u := u') d' m (by omega) (by omega)
      rw [hm, w4]
      obtain ⟨b1, b2⟩ := wrd_b (T := tp2 h0) (L := L) (s := s) (ws := uFacts)
      by_cases hw : wrd (tp2 h0) (kK (tp2 h0) L s) s (kE (tp2 h0) L s) uFacts = -1
      · have hany := b1.mp hw
        rw [hw] at w1
        have hwm : ((-1, -1) : Int × Int).1 ≤ (-1 : Int) ∧ (-1 : Int) ≤ ((-1, -1) : Int × Int).2 := ⟨by decide, by decide⟩
        by_cases hq : nqs (tp2 h0) L s 3 = true
        · have hq2 := hq
          unfold nqs at hq2
          rw [Bool.and_eq_true, decide_eq_true_iff, decide_eq_true_iff] at hq2
          have hfac : facq (tp2 h0) L s = some (nxt (tp2 h0) L s) := by unfold facq; rw [hq, Bool.or_true, if_pos rfl]
          have hv := kV_b hq2.1
          refine k_one hE hsm w2 w3 (y := 0) (env (ev := (0, 999)) (ei := kI) (ew := (-1, -1)) (ek := (1, 1)) ⟨hv.1.1, hv.2 hq2.2⟩ hiI hwm ⟨by show (1 : Int) ≤ _; omega, by show _ ≤ (1 : Int); omega⟩) (bcs_c rfl (by show 0 ≤ 3 + (1 * (s : Int) + ((-1) * (kE (tp2 h0) L s : Int) + 0)); omega) bcs_n) (k_ov w3) (k_alw e2 e3 e4 w1) kc_3 rfl (B' := B + G * (n + 1) + F * 1810) (by omega) ?_ (d' + 1) m hd (by omega)
          intro ls2 h3 j1 j2 j3 d f hd hf
          obtain ⟨y2, y3, y4, u2, q1, q2, q3, q4⟩ := k_als j1
          rw [q1]
          unfold mv at q2 q3 q4
          rw [bvx_v] at q2 q3 q4
          exact cont hfac y2 y3 y4 u2 h3 q2 q3 q4 j2 j3 d f hd hf
        · have hfac : facq (tp2 h0) L s = none := by unfold facq; rw [hany, Bool.false_or, if_neg hq]
          rw [hdq_n hfac]
          by_cases hK0 : kK (tp2 h0) L s = 0
          · exact k_fin0 hE hsm w2 w3 (env (ev := ag_MX) (ei := kI) (ew := (-1, -1)) (ek := (0, 0)) kV_bb hiI hwm ⟨by show (0 : Int) ≤ _; omega, by show _ ≤ (0 : Int); omega⟩) bcs_n (k_ov w3) (k_alw e2 e3 e4 w1) kc_1a (rfl) (d' + 1) m hd (by omega)
          · by_cases hK1 : kK (tp2 h0) L s = 1
            · have h4 : ¬ kE (tp2 h0) L s - s ≤ 3 := fun z => hq (by unfold nqs; rw [Bool.and_eq_true, decide_eq_true_iff, decide_eq_true_iff]; exact ⟨hK1, z⟩)
              exact k_fin0 hE hsm w2 w3 (env (ev := ag_MX) (ei := kI) (ew := (-1, -1)) (ek := (1, 1)) kV_bb hiI hwm ⟨by show (1 : Int) ≤ _; omega, by show _ ≤ (1 : Int); omega⟩) (bcs_c rfl (by show 0 ≤ -4 + ((-1) * (s : Int) + (1 * (kE (tp2 h0) L s : Int) + 0)); omega) bcs_n) (k_ov w3) (k_alw e2 e3 e4 w1) kc_2 (rfl) (d' + 1) m hd (by omega)
            · exact k_fin0 hE hsm w2 w3 (env (ev := ag_MX) (ei := kI) (ew := (-1, -1)) (ek := (2, 3)) kV_bb hiI hwm ⟨by show (2 : Int) ≤ _; omega, by show _ ≤ (3 : Int); omega⟩) bcs_n (k_ov w3) (k_alw e2 e3 e4 w1) kc_1b (rfl) (d' + 1) m hd (by omega)
      · obtain ⟨b3, b4, b5⟩ := b2 hw
        have b5 : wrd (tp2 h0) (kK (tp2 h0) L s) s (kE (tp2 h0) L s) uFacts < 6 := b5
        have hany : uFacts.any (wqs (tp2 h0) L s) = true := by
          cases hz : uFacts.any (wqs (tp2 h0) L s) with
          | true => rfl
          | false => exact absurd (b1.mpr hz) hw
        have hfac : facq (tp2 h0) L s = some (nxt (tp2 h0) L s) := by unfold facq; rw [hany, Bool.true_or, if_pos rfl]
        refine k_one hE hsm w2 w3 (y := 0) (env (ev := ag_MX) (ei := kI) (ew := (0, 5)) (ek := (2, 2)) kV_bb hiI ⟨b4, by show _ ≤ (5 : Int); omega⟩ ⟨by show (2 : Int) ≤ _; omega, by show _ ≤ (2 : Int); omega⟩) bcs_n (k_ov w3) (k_alw e2 e3 e4 w1) kc_4 rfl (B' := B + G * (n + 1) + F * 1810) (by omega) ?_ (d' + 1) m hd (by omega)
        intro ls2 h3 j1 j2 j3 d f hd hf
        obtain ⟨y2, y3, y4, u2, q1, q2, q3, q4⟩ := k_als j1
        rw [q1]
        unfold mv at q2 q3 q4
        rw [bvx_v] at q2 q3 q4
        exact cont hfac y2 y3 y4 u2 h3 q2 q3 q4 j2 j3 d f hd hf
end CN
