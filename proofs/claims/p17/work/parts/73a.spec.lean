/-! THE HOUSE's text: what is right, what it tells, and where it is wrong; s is where a token begins -/
abbrev hSt : Type := (Nat × Nat × Nat) × List (Nat × Nat) × (Nat → Nat) × (Nat → Nat → Nat) × (Nat → Int) × (Nat → Int) × (Nat → Int) × (Nat → Int)
def sR (σ : hSt) : Nat := σ.1.1
def sD (σ : hSt) : Nat := σ.1.2.1
def sP (σ : hSt) : Nat := σ.1.2.2
def sdl (σ : hSt) : List (Nat × Nat) := σ.2.1
def ssl (σ : hSt) : Nat → Nat := σ.2.2.1
def swk (σ : hSt) : Nat → Nat → Nat := σ.2.2.2.1
def spt (σ : hSt) : Nat → Int := σ.2.2.2.2.1
def spl (σ : hSt) : Nat → Int := σ.2.2.2.2.2.1
def skp (σ : hSt) : Nat → Int := σ.2.2.2.2.2.2.1
def swt (σ : hSt) : Nat → Int := σ.2.2.2.2.2.2.2
/-- is there a door? -/
def dor (l : List (Nat × Nat)) (a b : Nat) : Bool := l.any fun q => (Nat.beq q.1 a && Nat.beq q.2 b) || (Nat.beq q.1 b && Nat.beq q.2 a)
def lead (l : List (Nat × Nat)) (a b : Nat) : Bool := Nat.beq a b || dor l a b
/-- a number of at most five digits, within bounds -/
def nmq (T : Nat → Int) (L s : Nat) (lo hi : Int) : Option Int := if nqs T L s 5 = true ∧ lo ≤ kV T L s ∧ kV T L s ≤ hi then some (kV T L s) else none
def twoq (T : Nat → Int) (L s : Nat) (h1 h2 : Int) : (Int × Int × Nat) ⊕ Nat := match nmq T L s 0 h1 with
  | none => .inr s
  | some a => match nmq T L (nxt T L s) 0 h2 with
    | none => .inr (nxt T L s)
    | some b => .inl (a, b, nxt T L (nxt T L s))
def roomq (T : Nat → Int) (L : Nat) (σ : hSt) (s : Nat) : (hSt × Nat) ⊕ Nat := if 12 ≤ sR σ then .inr s else if uSorts.any (wqs T L (nxt T L s)) = true then (match nmq T L (nxt T L (nxt T L s)) 1 99 with
  | none => .inr (nxt T L (nxt T L s))
  | some _ => .inl (((sR σ + 1, sD σ, sP σ), σ.2), nxt T L (nxt T L (nxt T L s)))) else .inr (nxt T L s)
def doorq (T : Nat → Int) (L : Nat) (σ : hSt) (s : Nat) : (hSt × Nat) ⊕ Nat := if 20 ≤ sD σ then .inr s else match twoq T L (nxt T L s) ((sR σ : Int) - 1) ((sR σ : Int) - 1) with
  | .inr w => .inr w
  | .inl (a, b, e) => if a = b then .inr (nxt T L (nxt T L s)) else .inl (((sR σ, sD σ + 1, sP σ), sdl σ ++ [(a.toNat, b.toNat)], σ.2.2), e)
def hbq (T : Nat → Int) (L R : Nat) (l : List (Nat × Nat)) : Nat → Nat → Nat → Nat → (Nat → Nat) → Nat → (Nat × (Nat → Nat) × Nat) ⊕ Nat
  | 0, _, _, _, _, s => .inr s
  | n + 1, k, fi, la, w, s => if 12 ≤ k then .inr s else match nmq T L s 0 ((R : Int) - 1) with
    | none => .inr s
    | some v => if k ≠ 0 ∧ lead l la v.toNat = false then .inr s else
      if kK T L (nxt T L s) = 1 then hbq T L R l n (k + 1) (if k = 0 then v.toNat else fi) v.toNat (fun i => if i = k then v.toNat else w i) (nxt T L s) else
      if lead l v.toNat (if k = 0 then v.toNat else fi) = true then .inl (k + 1, (fun i => if i = k then v.toNat else w i), nxt T L s) else .inr s
def perq (T : Nat → Int) (L : Nat) (σ : hSt) (s : Nat) : (hSt × Nat) ⊕ Nat := if 8 ≤ sP σ then .inr s else match hbq T L (sR σ) (sdl σ) 13 0 0 0 (fun _ => 0) (nxt T L s) with
  | .inr w => .inr w
  | .inl (n, w, e) => .inl (((sR σ, sD σ, sP σ + 1), sdl σ, (fun p => if p = sP σ then n else ssl σ p), (fun p => if p = sP σ then w else swk σ p), spt σ, spl σ, (fun p => if p = sP σ then 100 else skp σ p), swt σ), e)
def loadq (T : Nat → Int) (L : Nat) (σ : hSt) (s : Nat) : (hSt × Nat) ⊕ Nat := match twoq T L (nxt T L s) ((sP σ : Int) - 1) 9999 with
  | .inr w => .inr w
  | .inl (_, _, e) => .inl (σ, e)
def sandq (T : Nat → Int) (L : Nat) (σ : hSt) (s : Nat) : (hSt × Nat) ⊕ Nat := match nmq T L (nxt T L s) 0 ((sR σ : Int) - 1) with
  | none => .inr (nxt T L s)
  | some _ => match twoq T L (nxt T L (nxt T L s)) ((sP σ : Int) - 1) 9999 with
    | .inr w => .inr w
    | .inl (_, _, e) => .inl (σ, e)
def upf (f : Nat → Int) (a b : Int) : Nat → Int := fun i => if i = a.toNat then b else f i
def toolq (T : Nat → Int) (L : Nat) (σ : hSt) (s : Nat) : (hSt × Nat) ⊕ Nat := match twoq T L (nxt T L s) ((sR σ : Int) - 1) 100 with
  | .inr w => .inr w
  | .inl (a, b, e) => .inl ((σ.1, sdl σ, ssl σ, swk σ, upf (spt σ) a b, spl σ, skp σ, swt σ), e)
def keepq (T : Nat → Int) (L : Nat) (σ : hSt) (s : Nat) : (hSt × Nat) ⊕ Nat := match twoq T L (nxt T L s) ((sP σ : Int) - 1) 100 with
  | .inr w => .inr w
  | .inl (a, b, e) => .inl ((σ.1, sdl σ, ssl σ, swk σ, spt σ, spl σ, upf (skp σ) a b, swt σ), e)
def wetq (T : Nat → Int) (L : Nat) (σ : hSt) (s : Nat) : (hSt × Nat) ⊕ Nat := match twoq T L (nxt T L s) ((sP σ : Int) - 1) 99 with
  | .inr w => .inr w
  | .inl (a, b, e) => .inl ((σ.1, sdl σ, ssl σ, swk σ, spt σ, spl σ, skp σ, upf (swt σ) a b), e)
def clogq (T : Nat → Int) (L : Nat) (σ : hSt) (s : Nat) : (hSt × Nat) ⊕ Nat := match nmq T L (nxt T L s) 0 99999 with
  | none => .inr (nxt T L s)
  | some _ => .inl (σ, nxt T L (nxt T L s))
def uHouse : List (List Nat) := [[114, 111, 111, 109], [100, 111, 111, 114], [112, 101, 114, 115, 111, 110], [108, 111, 97, 100], [115, 97, 110, 100], [116, 111, 111, 108], [107, 101, 101, 112, 115], [119, 101, 116], [99, 108, 111, 103]]
/-- which of some words stands there: 0 on; -1: none -/
def wix (T : Nat → Int) (L s : Nat) : List (List Nat) → Int → Int
  | [], _ => -1
  | u :: ws, k => if wqs T L s u = true then k else wix T L s ws (k + 1)
def hlq (T : Nat → Int) (L : Nat) (σ : hSt) (s : Nat) : (hSt × Nat) ⊕ Nat := match wix T L s uHouse 0 with
  | .ofNat 0 => roomq T L σ s
  | .ofNat 1 => doorq T L σ s
  | .ofNat 2 => perq T L σ s
  | .ofNat 3 => loadq T L σ s
  | .ofNat 4 => sandq T L σ s
  | .ofNat 5 => toolq T L σ s
  | .ofNat 6 => keepq T L σ s
  | .ofNat 7 => wetq T L σ s
  | .ofNat 8 => clogq T L σ s
  | _ => .inr s
def hsq (T : Nat → Int) (L : Nat) : Nat → hSt → Nat → hSt ⊕ Nat
  | 0, _, s => .inr s
  | k + 1, σ, s => match hlq T L σ s with
    | .inr w => .inr w
    | .inl (σ', e) => if L ≤ e then .inl σ' else if sqs T L e 59 = true then hsq T L k σ' (nxt T L e) else .inr e
/-- inl: what is told; inr: where it is wrong -/
def houseq (T : Nat → Int) (L : Nat) (σ : hSt) : hSt ⊕ Nat := if L ≤ sk isBl T L 0 then .inl σ else hsq T L 14 σ (sk isBl T L 0)
section HR
variable {T U : Nat → Int} {L : Nat}
set_option maxRecDepth 100000 in
theorem kV_q (h : tpR T U L) {s : Nat} : kV U L s = kV T L s := by
  unfold kV
  rw [kK_q h, kE_q h]
  by_cases h1 : kK T L s = 1
  · rw [if_pos h1, if_pos h1]
    have hs := kK_l (T := T) (L := L) (s := s) (by omega)
    have hk : kE T L s ≤ L := by rw [kE_1 h1]; exact sk_le (Nat.le_of_lt hs)
    have hg : s ≤ kE T L s := by rw [kE_1 h1]; exact sk_ge
    refine vln_eq h _ (by omega) fun i hi => ?_
    rw [kE_1 h1] at hi hk hg
    exact sk_all L s (Nat.le_add_left L _) (s + i) (by omega) (by omega)
  · rw [if_neg h1, if_neg h1]
set_option maxRecDepth 100000 in
theorem nm_q (h : tpR T U L) (s : Nat) (lo hi : Int) : nmq U L s lo hi = nmq T L s lo hi := by
  unfold nmq
  rw [nq_q h, kV_q h]
set_option maxRecDepth 100000 in
theorem tw_q (h : tpR T U L) (s : Nat) (h1 h2 : Int) : twoq U L s h1 h2 = twoq T L s h1 h2 := by
  unfold twoq
  simp only [nm_q h, nx_q h]
set_option maxRecDepth 100000 in
theorem hb_q (h : tpR T U L) {R : Nat} {l : List (Nat × Nat)} : ∀ n k fi la w s, hbq U L R l n k fi la w s = hbq T L R l n k fi la w s
  | 0, _, _, _, _, _ => rfl
  | n + 1, k, fi, la, w, s => by
    unfold hbq
    simp only [nm_q h, nx_q h, kK_q h, hb_q h n]
set_option maxRecDepth 100000 in
theorem wix_q (h : tpR T U L) (s : Nat) : ∀ {l : List (List Nat)} {k : Int}, (∀ u, u ∈ l → ∀ c, c ∈ u → c ≤ 127) → wix U L s l k = wix T L s l k
  | [], _, _ => rfl
  | u :: l, k, hu => by
    unfold wix
    rw [wq_q h s (hu u List.mem_cons_self), wix_q h s (l := l) fun u2 h2 => hu u2 (List.mem_cons_of_mem _ h2)]
set_option maxRecDepth 100000 in
theorem uH127 : ∀ u, u ∈ uHouse → ∀ c, c ∈ u → c ≤ 127 := by decide
set_option maxRecDepth 100000 in
theorem hl_q (h : tpR T U L) (σ : hSt) (s : Nat) : hlq U L σ s = hlq T L σ s := by
  unfold hlq roomq doorq perq loadq sandq toolq keepq wetq clogq
  rw [wix_q h s uH127, wa_q h _ uS127]
  simp only [nm_q h, nx_q h, tw_q h, hb_q h]
set_option maxRecDepth 100000 in
theorem hs_q (h : tpR T U L) : ∀ k σ s, hsq U L k σ s = hsq T L k σ s
  | 0, _, _ => rfl
  | k + 1, σ, s => by
    unfold hsq
    rw [hl_q h]
    cases hlq T L σ s with
    | inr w => rfl
    | inl q =>
      obtain ⟨σ', e⟩ := q
      dsimp only
      rw [sq_q h e (c := 59) (by decide) (by decide), nx_q h, hs_q h k]
set_option maxRecDepth 100000 in
theorem houseq_q (h : tpR T U L) (σ : hSt) : houseq U L σ = houseq T L σ := by
  unfold houseq
  rw [sk_eq h pas_bl, hs_q h]
end HR
