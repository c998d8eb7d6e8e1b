/-! THE LAW's text: what is right, and where it goes on; s is where a token begins (no blank stands there) -/
def nxt (T : Nat → Int) (L s : Nat) : Nat := sk isBl T L (kE T L s)
def wqs (T : Nat → Int) (L s : Nat) (u : List Nat) : Bool := decide (kK T L s = 2) && txq T s (kE T L s) u
def sqs (T : Nat → Int) (L s : Nat) (c : Int) : Bool := decide (kK T L s = 3) && decide (T s = c)
def nqs (T : Nat → Int) (L s n : Nat) : Bool := decide (kK T L s = 1) && decide (kE T L s - s ≤ n)
def uAnd : List Nat := [97, 110, 100]
def uOr : List Nat := [111, 114]
def uNot : List Nat := [110, 111, 116]
def uIf : List Nat := [105, 102]
def uWet : List Nat := [119, 101, 116]
def uSorts : List (List Nat) := [[111, 117, 116], [115, 116, 111, 110, 101], [99, 97, 114, 112, 101, 116], [98, 101, 100], [100, 114, 97, 105, 110]]
def uFacts : List (List Nat) := [[112, 101, 114, 115, 111, 110], [114, 111, 111, 109], [108, 111, 97, 100], [104, 101, 114, 101], [114, 111, 117, 110, 100], [112, 97, 114, 116]]
def uKinds : List (List Nat) := [[98, 114, 105, 110, 103], [100, 114, 111, 112], [112, 105, 99, 107], [115, 119, 101, 101, 112]]
/-- a number or a word for one -/
def facq (T : Nat → Int) (L s : Nat) : Option Nat := if (uFacts.any (wqs T L s) || nqs T L s 3) = true then some (nxt T L s) else none
def sumq (T : Nat → Int) (L : Nat) : Nat → Nat → Nat ⊕ Nat
  | 0, s => .inr s
  | n + 1, s => match facq T L s with
    | none => .inr s
    | some e => if sqs T L e 43 = true then sumq T L n (nxt T L e) else .inl e
def cmpq (T : Nat → Int) (L n s : Nat) : Nat ⊕ Nat := match sumq T L n s with
  | .inr w => .inr w
  | .inl e => if (sqs T L e 60 || sqs T L e 62) = true then sumq T L n (nxt T L e) else .inr e
/-- false: an atom, true: a condition; d: how deep; inl: where it goes on, inr: where it is wrong -/
def pq (T : Nat → Int) (L : Nat) : Nat → Bool → Nat → Nat → Nat ⊕ Nat
  | 0, _, _, s => .inr s
  | n + 1, false, d, s => if wqs T L s uNot = true then (if 6 ≤ d then .inr s else pq T L n false (d + 1) (nxt T L s)) else
    if sqs T L s 40 = true then (if 6 ≤ d then .inr s else (match pq T L n true (d + 1) (nxt T L s) with
      | .inr w => .inr w
      | .inl e => if sqs T L e 41 = true then .inl (nxt T L e) else .inr e)) else
    if (uSorts.any (wqs T L s) || wqs T L s uWet) = true then .inl (nxt T L s) else cmpq T L 401 s
  | n + 1, true, d, s => match pq T L n false d s with
    | .inr w => .inr w
    | .inl e => if (wqs T L e uAnd || wqs T L e uOr) = true then pq T L n true d (nxt T L e) else .inl e
def lnq (T : Nat → Int) (L s : Nat) : Nat ⊕ Nat := if uKinds.any (wqs T L s) = true then (if nqs T L (nxt T L s) 3 = true then (if wqs T L (nxt T L (nxt T L s)) uIf = true then pq T L 1000 true 0 (nxt T L (nxt T L (nxt T L s))) else .inl (nxt T L (nxt T L s))) else .inr (nxt T L s)) else .inr s
/-- inl: how many lines, inr: where it is wrong -/
def lsq (T : Nat → Int) (L : Nat) : Nat → Nat → Nat → Nat ⊕ Nat
  | 0, _, s => .inr s
  | k + 1, i, s => match lnq T L s with
    | .inr w => .inr w
    | .inl e => if L ≤ e then .inl (i + 1) else if sqs T L e 59 = true then lsq T L k (i + 1) (nxt T L e) else .inr e
def lawq (T : Nat → Int) (L : Nat) : Nat ⊕ Nat := if L ≤ sk isBl T L 0 then .inl 0 else lsq T L 12 0 (sk isBl T L 0)
section LQ
variable {T : Nat → Int} {L : Nat}
set_option maxRecDepth 100000 in
theorem nxt_le {s : Nat} (h : s ≤ L) : nxt T L s ≤ L := by
  refine sk_le ?_
  unfold kE
  by_cases a0 : kK T L s = 0
  · rw [if_pos a0]; exact h
  · rw [if_neg a0]
    by_cases a1 : kK T L s = 1
    · rw [if_pos a1]; exact sk_le h
    · rw [if_neg a1]
      by_cases a2 : kK T L s = 2
      · rw [if_pos a2]; exact sk_le h
      · rw [if_neg a2]
        by_cases hl : L ≤ s
        · exact absurd (by unfold kK; rw [if_pos hl]) a0
        · omega
set_option maxRecDepth 100000 in
theorem sk_idem {P : Int → Bool} {q : Nat} : sk P T L (sk P T L q) = sk P T L q := by
  have key : ∀ n q, L ≤ q + n → sk P T L (sk P T L q) = sk P T L q := by
    intro n
    induction n with
    | zero =>
      intro q hq
      have e1 : sk P T L q = q := sk_e fun z => by omega
      rw [e1, e1]
    | succ n ih =>
      intro q hq
      by_cases h : q < L → P (T q) = false
      · have e1 : sk P T L q = q := sk_e h
        rw [e1, e1]
      · have hlt : q < L := by
          by_cases z : q < L
          · exact z
          · exact absurd (fun z2 => absurd z2 z) h
        have hp : P (T q) = true := by
          cases hz : P (T q) with
          | true => rfl
          | false => exact absurd (fun _ => hz) h
        rw [sk_s hlt hp]
        exact ih (q + 1) (by omega)
  exact key L q (by omega)
set_option maxRecDepth 100000 in
theorem nxt_c {s : Nat} : sk isBl T L (nxt T L s) = nxt T L s := sk_idem
set_option maxRecDepth 100000 in
theorem kK_0 {s : Nat} : kK T L s = 0 ↔ L ≤ s := by
  unfold kK
  by_cases h : L ≤ s
  · rw [if_pos h]; exact ⟨fun _ => h, fun _ => rfl⟩
  · rw [if_neg h]
    constructor
    · intro z
      split at z
      · omega
      · split at z <;> omega
    · intro z; exact absurd z h
set_option maxRecDepth 100000 in
theorem nxt_gt {s : Nat} (hc : sk isBl T L s = s) (h : kK T L s ≠ 0) : s < nxt T L s := by
  have h1 := tkE_gt (T := T) (L := L) (q := s) (by unfold tkK tkS; rw [hc]; exact h)
  unfold tkE tkS at h1
  rw [hc] at h1
  have h2 := sk_ge (P := isBl) (T := T) (L := L) (q := kE T L s)
  unfold nxt
  omega
set_option maxRecDepth 100000 in
theorem wqs_K {s : Nat} {u : List Nat} (h : wqs T L s u = true) : kK T L s ≠ 0 := by
  unfold wqs at h
  rw [Bool.and_eq_true, decide_eq_true_iff] at h
  omega
set_option maxRecDepth 100000 in
theorem sqs_K {s : Nat} {c : Int} (h : sqs T L s c = true) : kK T L s ≠ 0 := by
  unfold sqs at h
  rw [Bool.and_eq_true, decide_eq_true_iff] at h
  omega
set_option maxRecDepth 100000 in
theorem nqs_K {s n : Nat} (h : nqs T L s n = true) : kK T L s ≠ 0 := by
  unfold nqs at h
  rw [Bool.and_eq_true, decide_eq_true_iff] at h
  omega
end LQ
