/-- a siege in plain numbers: G 0: regions, winds, turns, balloons, letters, loft, start, seed; G 1 risk, 2 distance, 3 return; G 4 how many regions a wind names, G 5 them, G 6 their weights (8 a wind); G 7 8 9 the turns; G 10 capacity, 11 pigeons; G 12 weight, 13 priority -/
def WF (G : Nat → Nat → Nat) : Prop :=
  (G 0 0 ≤ 8 ∧ G 0 1 ≤ 6 ∧ G 0 2 ≤ 30 ∧ G 0 3 ≤ 10 ∧ G 0 4 ≤ 24 ∧ G 0 5 ≤ 40 ∧ (G 0 6 < G 0 1 ∨ G 0 6 = 0) ∧ G 0 7 ≤ 9999) ∧
  (∀ k, k < G 0 0 → G 1 k ≤ 10 ∧ 1 ≤ G 2 k ∧ G 2 k ≤ 9 ∧ G 3 k ≤ 10) ∧
  ((∀ w, w < G 0 1 → G 4 w ≤ 8) ∧
   (∀ w k, w < G 0 1 → k < G 4 w → G 5 (8 * w + k) < G 0 0 ∧ 1 ≤ G 6 (8 * w + k) ∧ G 6 (8 * w + k) ≤ 10) ∧
   (∀ w k j, w < G 0 1 → k < G 4 w → j < k → G 5 (8 * w + k) ≠ G 5 (8 * w + j)) ∧
   (∀ w, w < G 0 1 → lS (G 4) (G 6) w ≤ 10)) ∧
  ((∀ k, k < G 0 2 → G 7 k < G 0 1 ∧ G 8 k < G 0 1 ∧ G 7 k ≠ G 8 k ∧ 1 ≤ G 9 k ∧ G 9 k ≤ 10) ∧
   (∀ k j, k < G 0 2 → j < k → ¬ (G 7 k = G 7 j ∧ G 8 k = G 8 j)) ∧
   (∀ w, tS (G 0 2) (G 7) (G 9) w ≤ 10)) ∧
  (∀ b, b < G 0 3 → 1 ≤ G 10 b ∧ G 10 b ≤ 999 ∧ G 11 b ≤ 4) ∧
  (∀ k, k < G 0 4 → 1 ≤ G 12 k ∧ G 12 k ≤ 99 ∧ 1 ≤ G 13 k ∧ G 13 k ≤ 9)
/-- the class holds the siege G -/
def RGc (G : Nat → Nat → Nat) (regions balloons letters loft start seed count turnCount : Int32) (risk distance comeback capacity pigeons weight priority turnFrom turnTo follow land aimCount aim : Nat → Int32) : Prop :=
  (regions = nI (G 0 0) ∧ balloons = nI (G 0 3) ∧ letters = nI (G 0 4) ∧ loft = nI (G 0 5) ∧ start = nI (G 0 6) ∧ seed = nI (G 0 7) ∧ count = nI (G 0 1) ∧ turnCount = nI (G 0 2)) ∧
  (∀ k, k < G 0 0 → risk k = nI (G 1 k) ∧ distance k = nI (G 2 k) ∧ comeback k = nI (G 3 k)) ∧
  (∀ b, b < G 0 3 → capacity b = nI (G 10 b) ∧ pigeons b = nI (G 11 b)) ∧
  (∀ k, k < G 0 4 → weight k = nI (G 12 k) ∧ priority k = nI (G 13 k)) ∧
  (∀ k, k < G 0 2 → turnFrom k = nI (G 7 k) ∧ turnTo k = nI (G 8 k)) ∧
  (∀ w v, w < G 0 1 → v < G 0 1 → follow (w * 6 + v) = nI (tF (G 0 2) (G 7) (G 8) (G 9) w v)) ∧
  (∀ w r, w < G 0 1 → r < 9 → land (w * 9 + r) = nI (lT (G 4) (G 5) (G 6) w r)) ∧
  (∀ w, w < G 0 1 → aimCount w = nI (G 4 w)) ∧
  (∀ w k, w < G 0 1 → k < G 4 w → aim (w * 8 + k) = nI (G 5 (8 * w + k)))
/-- the model holds the siege G -/
def RGm (G : Nat → Nat → Nat) (loftSize startWind seed : Int32) (regions risk distance comesBack winds named namedRegion namedWeight turns turnFrom turnTo turnWeight balloons room pigeons letters weight priority : Nat → Int32) : Prop :=
  (regions 0 = nI (G 0 0) ∧ winds 0 = nI (G 0 1) ∧ turns 0 = nI (G 0 2) ∧ balloons 0 = nI (G 0 3) ∧ letters 0 = nI (G 0 4) ∧ loftSize = nI (G 0 5) ∧ startWind = nI (G 0 6) ∧ seed = nI (G 0 7)) ∧
  (∀ k, k < G 0 0 → risk k = nI (G 1 k) ∧ distance k = nI (G 2 k) ∧ comesBack k = nI (G 3 k)) ∧
  (∀ b, b < G 0 3 → room b = nI (G 10 b) ∧ pigeons b = nI (G 11 b)) ∧
  (∀ k, k < G 0 4 → weight k = nI (G 12 k) ∧ priority k = nI (G 13 k)) ∧
  (∀ k, k < G 0 2 → turnFrom k = nI (G 7 k) ∧ turnTo k = nI (G 8 k) ∧ turnWeight k = nI (G 9 k)) ∧
  (∀ w, w < G 0 1 → named w = nI (G 4 w)) ∧
  (∀ w k, w < G 0 1 → k < G 4 w → namedRegion (8 * w + k) = nI (G 5 (8 * w + k)) ∧ namedWeight (8 * w + k) = nI (G 6 (8 * w + k)))
theorem tP_le {nT : Nat} {tf tt tw : Nat → Nat} (w v : Nat) : tP nT tf tt tw w v ≤ tS nT tf tw w := by
  unfold tP tS
  refine sm_le (fun k _ => ?_)
  by_cases h : tf k = w ∧ tt k = v
  · rw [if_pos h, if_pos h.1]; exact Nat.le_refl _
  · rw [if_neg h]; exact Nat.zero_le _
theorem lP_le {na nr nw : Nat → Nat} (w r : Nat) : lP na nr nw w r ≤ lS na nw w := by
  unfold lP lS
  refine sm_le (fun k _ => ?_)
  split
  · exact Nat.le_refl _
  · exact Nat.zero_le _
theorem tF_le {nT : Nat} {tf tt tw : Nat → Nat} {w v : Nat} (h : tS nT tf tw w ≤ 10) : tF nT tf tt tw w v ≤ 20 := by
  have := tP_le (nT := nT) (tf := tf) (tt := tt) (tw := tw) w v
  unfold tF
  split <;> omega
theorem lT_le {na nr nw : Nat → Nat} {w r : Nat} (h : lS na nw w ≤ 10) : lT na nr nw w r ≤ 10 := by
  have := lP_le (na := na) (nr := nr) (nw := nw) w r
  unfold lT
  split <;> omega
/-- an argument is one of 0 .. n - 1, or it isn't -/
theorem z_ixc (x c : Int32) (h : 0 ≤ c) : (c - 1 < x) = (c ≤ x) := by
  apply propext; grind
theorem z_pos {n : Nat} (h : n < 2 ^ 31) : 0 ≤ nI n := nI_pos' h
theorem z_has7 {N n : Nat} (x : Int32) : f_X7_has N (nI n) x = some (if x < 0 ∨ nI n ≤ x then 0 else 1) := by
  unfold f_X7_has
  by_cases h : x < 0
  · rw [if_pos h, if_pos (Or.inl h)]
  · rw [if_neg h]
    by_cases h2 : nI n ≤ x
    · rw [if_pos h2, if_pos (Or.inr h2)]
    · rw [if_neg h2, if_neg (by simp only [h, h2, or_self, not_false_eq_true])]
theorem z_within {N n : Nat} (hn : n < 2 ^ 31) (x : Int32) : f_X9_within N x 0 (nI n - 1) = some (if x < 0 ∨ nI n ≤ x then 0 else 1) := by
  unfold f_X9_within
  simp only [z_ixc x (nI n) (z_pos hn)]
  by_cases h : x < 0
  · rw [if_pos h, if_pos (Or.inl h)]
  · rw [if_neg h]
    by_cases h2 : nI n ≤ x
    · rw [if_pos h2, if_pos (Or.inr h2)]
    · rw [if_neg h2, if_neg (by simp only [h, h2, or_self, not_false_eq_true])]
theorem z_within' {N : Nat} (x c d : Int32) (hd : 0 ≤ d) (hc : c = d - 1) : f_X9_within N x 0 c = some (if x < 0 ∨ d ≤ x then 0 else 1) := by
  subst hc
  unfold f_X9_within
  simp only [z_ixc x d hd]
  by_cases h : x < 0
  · rw [if_pos h, if_pos (Or.inl h)]
  · rw [if_neg h]
    by_cases h2 : d ≤ x
    · rw [if_pos h2, if_pos (Or.inr h2)]
    · rw [if_neg h2, if_neg (by simp only [h, h2, or_self, not_false_eq_true])]
theorem z_hasB {N n : Nat} (x : Int32) : f_X5_hasBalloon N (nI n) x = some (if x < 0 ∨ nI n ≤ x then 0 else 1) := z_has7 (N := N) x
theorem z_hasR {N n : Nat} (x : Int32) : f_X5_hasRegion N (nI n) x = some (if x < 0 ∨ nI n ≤ x then 0 else 1) := z_has7 (N := N) x
theorem z_hasL {N n : Nat} (x : Int32) : f_X5_hasLetter N (nI n) x = some (if x < 0 ∨ nI n ≤ x then 0 else 1) := z_has7 (N := N) x
theorem z_hasJ {N n : Nat} (x : Int32) : f_X1_has N (nI n) x = some (if x < 0 ∨ nI n ≤ x then 0 else 1) := z_has7 (N := N) x
theorem z_fore {N : Nat} (x : Int32) : f_X8_isForecast N x = some (if x < 0 ∨ nI 9 ≤ x then 0 else 1) := by
  have e : (8 < x) = (nI 9 ≤ x) := by have := z_ixc x 9 (by decide); exact this
  unfold f_X8_isForecast
  simp only [e]
  exact z_has7 (N := N) x
theorem z_crew {N : Nat} (x : Int32) : f_X8_isCrew N x = some (if x < 0 ∨ nI 5 ≤ x then 0 else 1) := by
  have e : (4 < x) = (nI 5 ≤ x) := by have := z_ixc x 5 (by decide); exact this
  unfold f_X8_isCrew
  simp only [e]
  exact z_has7 (N := N) x
theorem z_days {N : Nat} (x : Int32) : f_X9_areDays N x = some (if x < 0 ∨ nI 9 ≤ x then 0 else 1) := by
  unfold f_X9_areDays
  rw [z_within' x 8 9 (by decide) (by decide), z_ob1]; rfl
theorem z_01 {c : Prop} [Decidable c] : ((if c then (0 : Int32) else 1) = 0) = c := by
  by_cases h : c
  · rw [if_pos h]; exact (eq_true rfl).trans (eq_true h).symm
  · rw [if_neg h]; exact (eq_false (by decide)).trans (eq_false h).symm
