set_option maxRecDepth 100000 in
theorem zop21 : zrunD (fun mi pc => (Nat.beq pc 23 && Nat.beq mi 190) || (Nat.beq pc 18 && Nat.beq mi 296))
  (fun mi _ => cond (Nat.beq mi 190) ([(2, 2147483648, 2147483672)], [3], [(54, 10)]) ([(2, 2147483648, 2147483672)], [2], [(85, 5)])) 4 6 2147483669 2147483669 = true := by decide +kernel
