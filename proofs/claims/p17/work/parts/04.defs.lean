/-! AN EVALUATOR over an abstract heap, written out as a function of fuel; behind it: whatever it answers, the machine does (part 'sound').
Values: .ref k is the k-th cell made; .retAddr i the i-th String constant; .float _ the script; .double _ some caught exception. -/
abbrev zS : Type := (Nat × Nat × List (Option Nat)) ⊕ ((Nat × List (Option (Option Nat))) ⊕ Unit)
abbrev zH : Type := List zS × (Nat → Nat → Int32) × (Nat → Nat → Int64) × Nat × Nat
abbrev zE : Type := Nat × (Nat → Int32)
abbrev zLs : Type := List (Option Value)
abbrev zR : Type := (Option Value ⊕ Nat) × zH
abbrev zF : Type := Nat → Nat → Nat → zLs → List Value → zH → Option zR
abbrev ZI : Type := Instr × Nat × (Nat × Nat × Nat) × Int32 × Nat
def zat {α : Type} : List α → Nat → Option α
  | [], _ => none
  | a :: _, 0 => some a
  | _ :: l, n + 1 => zat l n
def zset {α : Type} : List α → Nat → α → List α
  | [], _, _ => []
  | _ :: l, 0, x => x :: l
  | a :: l, n + 1, x => a :: zset l n x
/-- a long is stored no more where its second place is written -/
def zkl (n : Nat) (o : Option Value) : Option Value := match n with
  | 0 => (match o with
    | some (.long _) => none
    | o => o)
  | _ + 1 => o
def zstl : zLs → Nat → Value → zLs
  | [], _, _ => []
  | _ :: l, 0, v => some v :: l
  | o :: l, n + 1, v => zkl n o :: zstl l n v
def zrow {α : Type} (v : Nat → Nat → α) (c : Nat) (f : Nat → α) : Nat → Nat → α := fun c' => cond (Nat.beq c' c) f (v c')
def zpush (h : zH) (s : zS) (n : Nat) : zH := (h.1 ++ [s], zrow h.2.1 h.1.length (fun _ => 0), zrow h.2.2.1 h.1.length (fun _ => 0), h.2.2.2.1 + 1, h.2.2.2.2 + n)
def zsetI (h : zH) (c : Nat) (f : Nat → Int32) : zH := (h.1, zrow h.2.1 c f, h.2.2)
def zsetJ (h : zH) (c : Nat) (f : Nat → Int64) : zH := (h.1, h.2.1, zrow h.2.2.1 c f, h.2.2.2)
def zsetS (h : zH) (c : Nat) (s : zS) : zH := (zset h.1 c s, h.2)
def zrf : Option Nat → Value
  | none => .null
  | some k => .ref k
/-- an index of a row of n -/
def zck (j : Int32) (n : Nat) (r : Option zR) : Option zR := if j < 0 then none else if n ≤ j.toNatClampNeg then none else r
/-- 0 or 1 -/
def zc01 (x : Int32) (r : Option zR) : Option zR := if x = 0 then r else if x = 1 then r else none
def znz (x : Int32) (r : Option zR) : Option zR := if x = 0 then none else r
def znzl (x : Int64) (r : Option zR) : Option zR := if x = 0 then none else r
def zc1 : Value → Bool
  | .long _ => false
  | .double _ => true
  | .float _ => true
  | .int _ => true
  | .null => true
  | .ref _ => true
  | .retAddr _ => true
def zisA : Value → Bool
  | .long _ => false
  | .int _ => false
  | _ => true
def zcw : Value → Nat
  | .long _ => 2
  | _ => 1
def zsum : List Value → Nat
  | [] => 0
  | v :: l => zcw v + zsum l
/-- n values off the stack, the deepest first -/
def zpop : Nat → List Value → List Value → Option (List Value × List Value)
  | 0, st, acc => some (acc, st)
  | _ + 1, [], _ => none
  | n + 1, v :: st, acc => zpop n st (v :: acc)
def zent (n : Nat) (as : List Value) : zLs := as.map some ++ List.replicate (n - as.length) none
def zcall (r : Option zR) (kv : Option Value → zH → Option zR) (kx : Nat → zH → Option zR) : Option zR := match r with
  | none => none
  | some (.inl v, h) => kv v h
  | some (.inr x, h) => kx x h
def zsw (x : Int32) : List (Int32 × Nat) → Nat → (Nat → Option zR) → Option zR
  | [], d, k => k d
  | (a, t) :: l, d, k => if x = a then k t else zsw x l d k
def zlook : List (Nat × ZI) → Nat → Option ZI
  | [], _ => none
  | (k, z) :: l, pc => cond (Nat.beq k pc) (some z) (zlook l pc)
/-- a row of its cells, if it is one of that type -/
def zarr (h : zH) (t a : Nat) (k : Nat → Option zR) : Option zR := match zat h.1 a with
  | some (.inl (t', n, _)) => cond (Nat.beq t' t) (k n) none
  | _ => none
/-- which handler of a table takes x at pc -/
def zhand : List (Nat × Nat × Nat × Nat) → Nat → Nat → Option Nat
  | [], _, _ => none
  | (s, e, t, x') :: l, pc, x => cond (Nat.ble s pc && Nat.blt pc e && Nat.beq x' x) (some t) (zhand l pc x)
