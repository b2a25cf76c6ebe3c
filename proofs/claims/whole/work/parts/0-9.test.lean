theorem t_1 (x : Int32) (h : 0 ≤ x) (h2 : x < 10) : ¬ (x + 1 < 0) := by grind
theorem t_2 (x y : Int32) (h : 0 ≤ x) (h2 : x < 10) (hy : y ≤ 5) (hy0 : 0 ≤ y) : x + y < 16 := by grind
theorem t_3 (x : Int32) (h : 0 ≤ x) (h2 : x < 10) : (x + 1).toInt = x.toInt + 1 := by grind
theorem t_4 (n : Nat) (h : n < 100) : (nI n).toInt = n := by unfold nI; grind
theorem t_5 (x : Int64) (h : 0 ≤ x) (h2 : x < 10) : x * 7 < 100 := by grind
theorem t_6 (x : Int32) (h : 0 ≤ x) (h2 : x < 10) (f : Nat → Int32) (k : Option Int32) : gIx x 10 k = k := by
  unfold gIx; grind
theorem t_7 (letters : Int32) (y1 : Nat → Int32) (x2 : Int32) (h : 0 ≤ letters) (h2 : letters ≤ 24) : ∀ (n : Nat) (i acc : Int32), 0 ≤ i → i ≤ letters → letters.toInt - i.toInt < n → ∃ r, f_X5_total_5 0 letters y1 x2 24 n i acc = some r := by
  intro n
  induction n with
  | zero => intro i acc h3 h4 h5; grind
  | succ n ih => intro i acc h3 h4 h5; unfold f_X5_total_5; grind [gIx, nI]
