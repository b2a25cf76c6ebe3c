/-- the pigeons on their way, in the order of their launches -/
def fl (l h : Nat → Nat) : Nat → List Nat
  | 0 => []
  | c + 1 => fl l h c ++ List.replicate (h (l c)) (l c)
theorem fl_len (l h : Nat → Nat) : ∀ c : Nat, (fl l h c).length = sm c (fun j => h (l j))
  | 0 => rfl
  | c + 1 => by unfold fl; rw [List.length_append, fl_len l h c, List.length_replicate, sm_s]
/-- a state of the siege G: P 0: day, wind, x, launches, events; P 1 the launched balloons, P 2 homing, P 3 due, P 4 the letters' states, P 5 the cargos, P 6 the balloons' states; T: no day is later -/
def RSn (G P : Nat → Nat → Nat) (T : Nat) (day wind loft lost : Int32) (ds : Int64) (now : Nat → Int32) : Prop :=
  (day = nI (P 0 0) ∧ now 0 = nI (P 0 0) ∧ P 0 0 ≤ T) ∧ (now 1 = wind ∧ (0 < G 0 1 → wind = nI (P 0 1) ∧ P 0 1 < G 0 1) ∧ (G 0 1 = 0 → wind = -2)) ∧ (ds = lN (P 0 2) ∧ now 2 = nI (P 0 2) ∧ P 0 2 < 2 ^ 31) ∧ now 3 = loft ∧ now 4 = lost
def RSj (P : Nat → Nat → Nat) (jc : Int32) (jk jn jd now : Nat → Int32) : Prop :=
  jc = nI (P 0 4) ∧ now 164 = nI (P 0 4) ∧ P 0 4 ≤ 16 ∧ ∀ j, j < P 0 4 → jk j = now (165 + j) ∧ jn j = now (181 + j) ∧ jd j = now (197 + j)
def RSb (G P : Nat → Nat → Nat) (bst br cg now : Nat → Int32) : Prop :=
  (∀ b, b < 10 → bst b = nI (P 6 b) ∧ now (5 + b) = nI (P 6 b) ∧ P 6 b < 4) ∧ (∀ b, b < 10 → br b = now (15 + b)) ∧ (∀ b, b < 10 → cg b = nI (P 5 b) ∧ now (25 + b) = nI (P 5 b) ∧ P 5 b < 2 ^ G 0 4)
def RSl (G P : Nat → Nat → Nat) (lt an now : Nat → Int32) : Prop :=
  (∀ s, s < 4 → lt s = nI (bs (G 0 4) (fun k => P 4 k == s))) ∧ (∀ k, k < G 0 4 → now (35 + k) = nI (P 4 k) ∧ P 4 k < 4) ∧ (∀ k, k < 24 → an k = now (59 + k))
def RSa (G P : Nat → Nat → Nat) (T : Nat) (lc : Int32) (ho du la : Nat → Int32) : Prop :=
  lc = nI (P 0 3) ∧ (∀ j, j < P 0 3 → la j = nI (P 1 j) ∧ P 1 j < G 0 3) ∧ (∀ b, b < 10 → ho b = nI (P 2 b) ∧ P 2 b ≤ 4 ∧ du b = nI (P 3 b) ∧ P 3 b ≤ T + 9)
def RSf (P : Nat → Nat → Nat) (now : Nat → Int32) : Prop :=
  now 83 = nI (fl (P 1) (P 2) (P 0 3)).length ∧ ∀ i b, (fl (P 1) (P 2) (P 0 3))[i]? = some b → now (84 + i) = nI b ∧ now (124 + i) = nI (P 3 b)
def RSi (G P : Nat → Nat → Nat) : Prop :=
  (∀ b, b < 10 → sm (P 0 3) (fun j => if P 1 j = b then 1 else 0) = if P 6 b = 0 then 0 else 1) ∧
  (∀ b, b < 10 → P 6 b = 0 → P 2 b = 0 ∧ P 5 b = 0) ∧
  (∀ b, b < 10 → 0 < P 2 b → P 0 0 < P 3 b ∧ ∀ k, k < G 0 4 → (P 5 b).testBit k = true → P 4 k = 2) ∧
  (∀ b b' k, b < 10 → b' < 10 → b ≠ b' → k < G 0 4 → (P 5 b).testBit k = true → (P 5 b').testBit k = false) ∧
  (∀ b k, b < 10 → k < G 0 4 → (P 5 b).testBit k = true → P 4 k ≠ 0)
section
variable {G : Nat → Nat → Nat} {regions balloons letters loft start seed count turnCount : Int32} {risk distance comeback capacity pigeons weight priority turnFrom turnTo follow land aimCount aim : Nat → Int32} {mLoft mStart mSeed : Int32} {mRegions mRisk mDistance mBack mWinds mNamed mNR mNW mTurns mTF mTT mTW mBalloons mRoom mPigeons mLetters mWeight mPriority : Nat → Int32}
variable {P : Nat → Nat → Nat} {T : Nat} {day wind loftN lost lc jc : Int32} {ds : Int64} {jk jn jd bst br cg lt an ho du la mNow : Nat → Int32}
theorem z_isB {N : Nat} (hm : RGm G mLoft mStart mSeed mRegions mRisk mDistance mBack mWinds mNamed mNR mNW mTurns mTF mTT mTW mBalloons mRoom mPigeons mLetters mWeight mPriority) (hG : WF G) (x : Int32) : f_X9_isBalloon N mBalloons x = some (if x < 0 ∨ nI (G 0 3) ≤ x then 0 else 1) := by
  obtain ⟨⟨g0, g1, g2, g3, g4, g5, g6, g7⟩, gr, ⟨gna, gn1, gn2, gn3⟩, ⟨gt1, gt2, gt3⟩, gb, gl⟩ := hG
  obtain ⟨⟨m0, m1, m2, m3, m4, rfl, rfl, rfl⟩, mr, mb, ml, mt, mna, mnr⟩ := hm
  unfold f_X9_isBalloon
  rw [z_gI0 (by omega) (by omega), z_c0, m3, z_within (by omega), z_ob1]
theorem z_isL {N : Nat} (hm : RGm G mLoft mStart mSeed mRegions mRisk mDistance mBack mWinds mNamed mNR mNW mTurns mTF mTT mTW mBalloons mRoom mPigeons mLetters mWeight mPriority) (hG : WF G) (x : Int32) : f_X9_isLetter N mLetters x = some (if x < 0 ∨ nI (G 0 4) ≤ x then 0 else 1) := by
  obtain ⟨⟨g0, g1, g2, g3, g4, g5, g6, g7⟩, gr, ⟨gna, gn1, gn2, gn3⟩, ⟨gt1, gt2, gt3⟩, gb, gl⟩ := hG
  obtain ⟨⟨m0, m1, m2, m3, m4, rfl, rfl, rfl⟩, mr, mb, ml, mt, mna, mnr⟩ := hm
  unfold f_X9_isLetter
  rw [z_gI0 (by omega) (by omega), z_c0, m4, z_within (by omega), z_ob1]
theorem e_capacity {N : Nat} (hG : WF G) (hc : RGc G regions balloons letters loft start seed count turnCount risk distance comeback capacity pigeons weight priority turnFrom turnTo follow land aimCount aim) (hm : RGm G mLoft mStart mSeed mRegions mRisk mDistance mBack mWinds mNamed mNR mNW mTurns mTF mTT mTW mBalloons mRoom mPigeons mLetters mWeight mPriority) (x1 : Int32) : ∃ r, f_X8_capacity N balloons capacity x1 = some r ∧ f_X9_capacity N mBalloons mRoom x1 = some (r, 0) := by
  have hb := z_isB (N := N) hm hG x1
  obtain ⟨⟨g0, g1, g2, g3, g4, g5, g6, g7⟩, gr, ⟨gna, gn1, gn2, gn3⟩, ⟨gt1, gt2, gt3⟩, gb, gl⟩ := hG
  obtain ⟨⟨rfl, rfl, rfl, rfl, rfl, rfl, rfl, rfl⟩, cr, cb, cl, ct, cf, cla, cac, cai⟩ := hc
  obtain ⟨⟨m0, m1, m2, m3, m4, rfl, rfl, rfl⟩, mr, mb, ml, mt, mna, mnr⟩ := hm
  unfold f_X8_capacity f_X9_capacity
  rw [hb, z_ob1, z_hasB, z_ob1]
  simp only [z_01]
  by_cases h : x1 < 0 ∨ nI (G 0 3) ≤ x1
  · exact ⟨_, if_pos h, if_pos h⟩
  obtain ⟨s, hs, rfl⟩ := z_j (by omega) h
  refine ⟨nI (G 10 s), (if_neg h).trans ?_, (if_neg h).trans ?_⟩
  · rw [z_gIx (by omega) (by omega), z_cl (by omega), (cb s hs).1]
  · rw [z_gIx (by omega) (by omega), z_cl (by omega), (mb s hs).1]
theorem e_letterWeight {N : Nat} (hG : WF G) (hc : RGc G regions balloons letters loft start seed count turnCount risk distance comeback capacity pigeons weight priority turnFrom turnTo follow land aimCount aim) (hm : RGm G mLoft mStart mSeed mRegions mRisk mDistance mBack mWinds mNamed mNR mNW mTurns mTF mTT mTW mBalloons mRoom mPigeons mLetters mWeight mPriority) (x1 : Int32) : ∃ r, f_X8_letterWeight N letters weight x1 = some r ∧ f_X9_letterWeight N mLetters mWeight x1 = some (r, 0) := by
  have hb := z_isL (N := N) hm hG x1
  obtain ⟨⟨g0, g1, g2, g3, g4, g5, g6, g7⟩, gr, ⟨gna, gn1, gn2, gn3⟩, ⟨gt1, gt2, gt3⟩, gb, gl⟩ := hG
  obtain ⟨⟨rfl, rfl, rfl, rfl, rfl, rfl, rfl, rfl⟩, cr, cb, cl, ct, cf, cla, cac, cai⟩ := hc
  obtain ⟨⟨m0, m1, m2, m3, m4, rfl, rfl, rfl⟩, mr, mb, ml, mt, mna, mnr⟩ := hm
  unfold f_X8_letterWeight f_X9_letterWeight
  rw [hb, z_ob1, z_hasL, z_ob1]
  simp only [z_01]
  by_cases h : x1 < 0 ∨ nI (G 0 4) ≤ x1
  · exact ⟨_, if_pos h, if_pos h⟩
  obtain ⟨s, hs, rfl⟩ := z_j (by omega) h
  refine ⟨nI (G 12 s), (if_neg h).trans ?_, (if_neg h).trans ?_⟩
  · rw [z_gIx (by omega) (by omega), z_cl (by omega), (cl s hs).1]
  · rw [z_gIx (by omega) (by omega), z_cl (by omega), (ml s hs).1]
theorem e_balloonState {N : Nat} (hG : WF G) (hc : RGc G regions balloons letters loft start seed count turnCount risk distance comeback capacity pigeons weight priority turnFrom turnTo follow land aimCount aim) (hm : RGm G mLoft mStart mSeed mRegions mRisk mDistance mBack mWinds mNamed mNR mNW mTurns mTF mTT mTW mBalloons mRoom mPigeons mLetters mWeight mPriority) (hb : RSb G P bst br cg mNow) (x1 : Int32) : ∃ r, f_X8_balloonState N balloons bst x1 = some r ∧ f_X9_balloonState N mBalloons mNow x1 = some (r, 0) := by
  have hi := z_isB (N := N) hm hG x1
  obtain ⟨⟨g0, g1, g2, g3, g4, g5, g6, g7⟩, gr, ⟨gna, gn1, gn2, gn3⟩, ⟨gt1, gt2, gt3⟩, gb, gl⟩ := hG
  obtain ⟨⟨rfl, rfl, rfl, rfl, rfl, rfl, rfl, rfl⟩, cr, cb, cl, ct, cf, cla, cac, cai⟩ := hc
  unfold f_X8_balloonState f_X9_balloonState
  rw [hi, z_ob1, z_hasB, z_ob1]
  simp only [z_01]
  by_cases h : x1 < 0 ∨ nI (G 0 3) ≤ x1
  · exact ⟨_, if_pos h, if_pos h⟩
  obtain ⟨s, hs, rfl⟩ := z_j (by omega) h
  obtain ⟨b1, b2, b3⟩ := hb.1 s (by omega)
  refine ⟨nI (P 6 s), (if_neg h).trans ?_, (if_neg h).trans ?_⟩
  · rw [z_gIx (by omega) (by omega), z_cl (by omega), b1]
  · simp (disch := omega) only [show (5 : Int32) = nI 5 from rfl, z_add, z_gIx, z_cl, b2]
theorem e_balloonRegion {N : Nat} (hG : WF G) (hc : RGc G regions balloons letters loft start seed count turnCount risk distance comeback capacity pigeons weight priority turnFrom turnTo follow land aimCount aim) (hm : RGm G mLoft mStart mSeed mRegions mRisk mDistance mBack mWinds mNamed mNR mNW mTurns mTF mTT mTW mBalloons mRoom mPigeons mLetters mWeight mPriority) (hb : RSb G P bst br cg mNow) (x1 : Int32) : ∃ r, f_X8_balloonRegion N balloons br x1 = some r ∧ f_X9_balloonRegion N mBalloons mNow x1 = some (r, 0) := by
  have hi := z_isB (N := N) hm hG x1
  obtain ⟨⟨g0, g1, g2, g3, g4, g5, g6, g7⟩, gr, ⟨gna, gn1, gn2, gn3⟩, ⟨gt1, gt2, gt3⟩, gb, gl⟩ := hG
  obtain ⟨⟨rfl, rfl, rfl, rfl, rfl, rfl, rfl, rfl⟩, cr, cb, cl, ct, cf, cla, cac, cai⟩ := hc
  unfold f_X8_balloonRegion f_X9_balloonRegion
  rw [hi, z_ob1, z_hasB, z_ob1]
  simp only [z_01]
  by_cases h : x1 < 0 ∨ nI (G 0 3) ≤ x1
  · exact ⟨_, if_pos h, if_pos h⟩
  obtain ⟨s, hs, rfl⟩ := z_j (by omega) h
  have b1 := hb.2.1 s (by omega)
  refine ⟨mNow (15 + s), (if_neg h).trans ?_, (if_neg h).trans ?_⟩
  · rw [z_gIx (by omega) (by omega), z_cl (by omega), b1]
  · simp (disch := omega) only [show (15 : Int32) = nI 15 from rfl, z_add, z_gIx, z_cl]
theorem e_cargo {N : Nat} (hG : WF G) (hc : RGc G regions balloons letters loft start seed count turnCount risk distance comeback capacity pigeons weight priority turnFrom turnTo follow land aimCount aim) (hm : RGm G mLoft mStart mSeed mRegions mRisk mDistance mBack mWinds mNamed mNR mNW mTurns mTF mTT mTW mBalloons mRoom mPigeons mLetters mWeight mPriority) (hb : RSb G P bst br cg mNow) (x1 : Int32) : ∃ r, f_X8_cargo N balloons cg x1 = some r ∧ f_X9_cargo N mBalloons mNow x1 = some (r, 0) := by
  have hi := z_isB (N := N) hm hG x1
  obtain ⟨⟨g0, g1, g2, g3, g4, g5, g6, g7⟩, gr, ⟨gna, gn1, gn2, gn3⟩, ⟨gt1, gt2, gt3⟩, gb, gl⟩ := hG
  obtain ⟨⟨rfl, rfl, rfl, rfl, rfl, rfl, rfl, rfl⟩, cr, cb, cl, ct, cf, cla, cac, cai⟩ := hc
  unfold f_X8_cargo f_X9_cargo
  rw [hi, z_ob1, z_hasB, z_ob1]
  simp only [z_01]
  by_cases h : x1 < 0 ∨ nI (G 0 3) ≤ x1
  · exact ⟨_, if_pos h, if_pos h⟩
  obtain ⟨s, hs, rfl⟩ := z_j (by omega) h
  obtain ⟨b1, b2, b3⟩ := hb.2.2 s (by omega)
  refine ⟨nI (P 5 s), (if_neg h).trans ?_, (if_neg h).trans ?_⟩
  · rw [z_gIx (by omega) (by omega), z_cl (by omega), b1]
  · simp (disch := omega) only [show (25 : Int32) = nI 25 from rfl, z_add, z_gIx, z_cl, b2]
theorem s_stateOf {N k : Nat} (hN : 100 < N) (hG : WF G) (hl : RSl G P lt an mNow) (hk : k < G 0 4) : f_X6_stateOfLetter N lt (nI k) = some (nI (P 4 k)) := by
  have g4 : G 0 4 ≤ 24 := hG.1.2.2.2.2.1
  have hp := z_p24 g4
  obtain ⟨l1, l2, l3⟩ := hl
  have hb : ∀ s, s < 4 → (((lt s >>> (nI k &&& 31)) &&& 1) = 1) = (P 4 k = s) := by
    intro s hs
    have hlt := bs_lt (fun k => P 4 k == s) (G 0 4)
    rw [l1 s hs, z_bit (by omega) (by omega), bs_bit]
    simp [hk]
  have h4 := (l2 k hk).2
  obtain ⟨n, rfl⟩ : ∃ n, N = n + 4 := ⟨N - 4, by omega⟩
  unfold f_X6_stateOfLetter
  have c3 : (3 : Int32).toNatClampNeg = 3 := rfl
  have c2 : (2 : Int32).toNatClampNeg = 2 := rfl
  have c1 : (1 : Int32).toNatClampNeg = 1 := rfl
  have i3 : ∀ k, gIx (γ := Int32) 3 4 k = k := fun k => z_gIx (i := 3) (by omega) (by omega)
  have i2 : ∀ k, gIx (γ := Int32) 2 4 k = k := fun k => z_gIx (i := 2) (by omega) (by omega)
  have i1 : ∀ k, gIx (γ := Int32) 1 4 k = k := fun k => z_gIx (i := 1) (by omega) (by omega)
  rw [f_X6_stateOfLetter_2.eq_2, if_neg (by decide), i3, c3]
  simp only [hb 3 (by omega)]
  by_cases h3 : P 4 k = 3
  · rw [if_pos h3, h3]; rfl
  rw [if_neg h3, show (3 : Int32) + (-1) = 2 from by decide, f_X6_stateOfLetter_2.eq_2, if_neg (by decide), i2, c2]
  simp only [hb 2 (by omega)]
  by_cases h2 : P 4 k = 2
  · rw [if_pos h2, h2]; rfl
  rw [if_neg h2, show (2 : Int32) + (-1) = 1 from by decide, f_X6_stateOfLetter_2.eq_2, if_neg (by decide), i1, c1]
  simp only [hb 1 (by omega)]
  by_cases h1 : P 4 k = 1
  · rw [if_pos h1, h1]; rfl
  rw [if_neg h1, show (1 : Int32) + (-1) = 0 from by decide, f_X6_stateOfLetter_2.eq_2, if_pos (by decide), show P 4 k = 0 by omega]; rfl
theorem e_letterState {N : Nat} (hN : 100 < N) (hG : WF G) (hc : RGc G regions balloons letters loft start seed count turnCount risk distance comeback capacity pigeons weight priority turnFrom turnTo follow land aimCount aim) (hm : RGm G mLoft mStart mSeed mRegions mRisk mDistance mBack mWinds mNamed mNR mNW mTurns mTF mTT mTW mBalloons mRoom mPigeons mLetters mWeight mPriority) (hl : RSl G P lt an mNow) (x1 : Int32) : ∃ r, f_X8_letterState N letters lt x1 = some r ∧ f_X9_letterState N mLetters mNow x1 = some (r, 0) := by
  have hi := z_isL (N := N) hm hG x1
  have hs1 := fun k => s_stateOf (N := N) (k := k) hN hG hl
  obtain ⟨⟨g0, g1, g2, g3, g4, g5, g6, g7⟩, gr, ⟨gna, gn1, gn2, gn3⟩, ⟨gt1, gt2, gt3⟩, gb, gl⟩ := hG
  obtain ⟨⟨rfl, rfl, rfl, rfl, rfl, rfl, rfl, rfl⟩, cr, cb, cl, ct, cf, cla, cac, cai⟩ := hc
  unfold f_X8_letterState f_X9_letterState
  rw [hi, z_ob1, z_hasL, z_ob1]
  simp only [z_01]
  by_cases h : x1 < 0 ∨ nI (G 0 4) ≤ x1
  · exact ⟨_, if_pos h, if_pos h⟩
  obtain ⟨s, hs, rfl⟩ := z_j (by omega) h
  have b2 := (hl.2.1 s hs).1
  refine ⟨nI (P 4 s), (if_neg h).trans ?_, (if_neg h).trans ?_⟩
  · rw [hs1 s hs, z_ob1]
  · simp (disch := omega) only [show (35 : Int32) = nI 35 from rfl, z_add, z_gIx, z_cl, b2]
theorem e_answerDay {N : Nat} (hG : WF G) (hc : RGc G regions balloons letters loft start seed count turnCount risk distance comeback capacity pigeons weight priority turnFrom turnTo follow land aimCount aim) (hm : RGm G mLoft mStart mSeed mRegions mRisk mDistance mBack mWinds mNamed mNR mNW mTurns mTF mTT mTW mBalloons mRoom mPigeons mLetters mWeight mPriority) (hl : RSl G P lt an mNow) (x1 : Int32) : ∃ r, f_X8_answerDay N letters an x1 = some r ∧ f_X9_answerDay N mLetters mNow x1 = some (r, 0) := by
  have hi := z_isL (N := N) hm hG x1
  obtain ⟨⟨g0, g1, g2, g3, g4, g5, g6, g7⟩, gr, ⟨gna, gn1, gn2, gn3⟩, ⟨gt1, gt2, gt3⟩, gb, gl⟩ := hG
  obtain ⟨⟨rfl, rfl, rfl, rfl, rfl, rfl, rfl, rfl⟩, cr, cb, cl, ct, cf, cla, cac, cai⟩ := hc
  unfold f_X8_answerDay f_X9_answerDay
  rw [hi, z_ob1, z_hasL, z_ob1]
  simp only [z_01]
  by_cases h : x1 < 0 ∨ nI (G 0 4) ≤ x1
  · exact ⟨_, if_pos h, if_pos h⟩
  obtain ⟨s, hs, rfl⟩ := z_j (by omega) h
  have b1 := hl.2.2 s (by omega)
  refine ⟨mNow (59 + s), (if_neg h).trans ?_, (if_neg h).trans ?_⟩
  · rw [z_gIx (by omega) (by omega), z_cl (by omega), b1]
  · simp (disch := omega) only [show (59 : Int32) = nI 59 from rfl, z_add, z_gIx, z_cl]
theorem m_inState_4 {N n s : Nat} {letters now : Nat → Int32} {f : Nat → Nat} (hn : n ≤ 24) (hs : s < 4) (h0 : letters 0 = nI n) (hw : ∀ k, k < n → now (35 + k) = nI (f k) ∧ f k < 4) : ∀ (m i a : Nat), i ≤ n → n - i < m → a = bs i (fun k => f k == s) → f_X9_inState_4 N letters now (nI s) m (nI i) (nI a) = some (nI n, nI (bs n (fun k => f k == s))) := by
  intro m
  induction m with
  | zero => intro i a h1 h2; omega
  | succ m ih =>
    intro i a h1 h2 ha
    rw [f_X9_inState_4.eq_2]
    by_cases h : i < n
    · obtain ⟨w1, w2⟩ := hw i h
      have := ih (i + 1) (bs (i + 1) (fun k => f k == s)) (by omega) (by omega) rfl
      rw [bs_s, ← ha, ← nI_1 i] at this
      rw [z_gI0 (by omega) (by omega), z_c0, h0]
      have e0 : nI a ||| 0 = nI a := by rw [show (0 : Int32) = nI 0 from rfl, z_or, Nat.or_zero]
      simp (disch := omega) only [show (35 : Int32) = nI 35 from rfl, z_le, z_eq, z_add, z_gIx, z_cl, w1, e0, z_shl1, z_or, if_neg]
      by_cases e : f i = s
      · rw [if_pos (by simp [e])] at this; rw [if_pos e]; exact this
      · rw [if_neg (by simp [e])] at this; rw [if_neg e]; exact this
    · have : i = n := by omega
      subst this
      subst ha
      rw [z_gI0 (by omega) (by omega), z_c0, h0]
      simp (disch := omega) only [z_le, if_pos]
theorem m_inState {N n s : Nat} {letters now : Nat → Int32} {f : Nat → Nat} (hN : 100 < N) (hn : n ≤ 24) (hs : s < 4) (h0 : letters 0 = nI n) (hw : ∀ k, k < n → now (35 + k) = nI (f k) ∧ f k < 4) : f_X9_inState N letters now (nI s) = some (nI (bs n (fun k => f k == s))) := by
  unfold f_X9_inState
  exact ob2_of (m_inState_4 (N := N) hn hs h0 hw N 0 0 (by omega) (by omega) rfl)
theorem z_isS {N : Nat} (x : Int32) : f_X8_isLetterState N x = some (if x < 0 ∨ nI 4 ≤ x then 0 else 1) := z_has7 (N := N) (n := 4) x
theorem e_lettersIn {N : Nat} (hN : 100 < N) (hG : WF G) (hm : RGm G mLoft mStart mSeed mRegions mRisk mDistance mBack mWinds mNamed mNR mNW mTurns mTF mTT mTW mBalloons mRoom mPigeons mLetters mWeight mPriority) (hl : RSl G P lt an mNow) (x1 : Int32) : ∃ r, f_X8_lettersIn N lt x1 = some r ∧ f_X9_lettersIn N mLetters mNow x1 = some (r, 0) := by
  obtain ⟨⟨g0, g1, g2, g3, g4, g5, g6, g7⟩, gr, ⟨gna, gn1, gn2, gn3⟩, ⟨gt1, gt2, gt3⟩, gb, gl⟩ := hG
  obtain ⟨⟨m0, m1, m2, m3, m4, rfl, rfl, rfl⟩, mr, mb, ml, mt, mna, mnr⟩ := hm
  unfold f_X8_lettersIn f_X9_lettersIn
  rw [z_isS, z_ob1, z_within' x1 3 4 (by decide) (by decide), z_ob1, show (4 : Int32) = nI 4 from rfl]
  simp only [z_01]
  by_cases h : x1 < 0 ∨ nI 4 ≤ x1
  · exact ⟨_, if_pos h, if_pos h⟩
  obtain ⟨s, hs, rfl⟩ := z_j (by omega) h
  refine ⟨nI (bs (G 0 4) (fun k => P 4 k == s)), (if_neg h).trans ?_, (if_neg h).trans ?_⟩
  · rw [z_gIx (by omega) (by omega), z_cl (by omega), hl.1 s hs]
  · rw [m_inState hN g4 hs m4 hl.2.1, z_ob1]
theorem e_weightIn {N : Nat} (hN : 100 < N) (hG : WF G) (hc : RGc G regions balloons letters loft start seed count turnCount risk distance comeback capacity pigeons weight priority turnFrom turnTo follow land aimCount aim) (hm : RGm G mLoft mStart mSeed mRegions mRisk mDistance mBack mWinds mNamed mNR mNW mTurns mTF mTT mTW mBalloons mRoom mPigeons mLetters mWeight mPriority) (hl : RSl G P lt an mNow) (x1 : Int32) : ∃ r, f_X8_weightIn N letters lt weight x1 = some r ∧ f_X9_weightIn N mLetters mNow mWeight x1 = some (r, 0) := by
  obtain ⟨⟨g0, g1, g2, g3, g4, g5, g6, g7⟩, gr, ⟨gna, gn1, gn2, gn3⟩, ⟨gt1, gt2, gt3⟩, gb, gl⟩ := hG
  obtain ⟨⟨rfl, rfl, rfl, rfl, rfl, rfl, rfl, rfl⟩, cr, cb, cl, ct, cf, cla, cac, cai⟩ := hc
  obtain ⟨⟨m0, m1, m2, m3, m4, rfl, rfl, rfl⟩, mr, mb, ml, mt, mna, mnr⟩ := hm
  have hp := z_p24 g4
  unfold f_X8_weightIn f_X9_weightIn
  rw [z_isS, z_ob1, z_within' x1 3 4 (by decide) (by decide), z_ob1, show (4 : Int32) = nI 4 from rfl]
  simp only [z_01]
  by_cases h : x1 < 0 ∨ nI 4 ≤ x1
  · exact ⟨_, if_pos h, if_pos h⟩
  obtain ⟨s, hs, rfl⟩ := z_j (by omega) h
  have hlt := bs_lt (fun k => P 4 k == s) (G 0 4)
  refine ⟨nI (tot (G 0 4) (G 12) (bs (G 0 4) (fun k => P 4 k == s))), (if_neg h).trans ?_, (if_neg h).trans ?_⟩
  · rw [z_gIx (by omega) (by omega), z_cl (by omega), hl.1 s hs, s_total hN g4 (by omega) (fun k hk => (cl k hk).1), z_ob1]
  · rw [m_inState hN g4 hs m4 hl.2.1, z_ob1, m_sumOf hN (by omega) (by omega) g4 (by omega) m4 (fun k hk => (ml k hk).1), z_ob1]
theorem e_answeredPriority {N : Nat} (hN : 100 < N) (hG : WF G) (hc : RGc G regions balloons letters loft start seed count turnCount risk distance comeback capacity pigeons weight priority turnFrom turnTo follow land aimCount aim) (hm : RGm G mLoft mStart mSeed mRegions mRisk mDistance mBack mWinds mNamed mNR mNW mTurns mTF mTT mTW mBalloons mRoom mPigeons mLetters mWeight mPriority) (hl : RSl G P lt an mNow) : ∃ r, f_X8_answeredPriority N letters lt priority = some r ∧ f_X9_answeredPriority N mLetters mNow mPriority = some (r, 0) := by
  obtain ⟨⟨g0, g1, g2, g3, g4, g5, g6, g7⟩, gr, ⟨gna, gn1, gn2, gn3⟩, ⟨gt1, gt2, gt3⟩, gb, gl⟩ := hG
  obtain ⟨⟨rfl, rfl, rfl, rfl, rfl, rfl, rfl, rfl⟩, cr, cb, cl, ct, cf, cla, cac, cai⟩ := hc
  obtain ⟨⟨m0, m1, m2, m3, m4, rfl, rfl, rfl⟩, mr, mb, ml, mt, mna, mnr⟩ := hm
  have hp := z_p24 g4
  unfold f_X8_answeredPriority f_X9_answeredPriority
  have hlt := bs_lt (fun k => P 4 k == 3) (G 0 4)
  refine ⟨nI (tot (G 0 4) (G 13) (bs (G 0 4) (fun k => P 4 k == 3))), ?_, ?_⟩
  · rw [show (3 : Int32) = nI 3 from rfl, z_gIx (by omega) (by omega), z_cl (by omega), hl.1 3 (by omega), s_total hN g4 (by omega) (fun k hk => (cl k hk).2), z_ob1]
  · rw [show (3 : Int32) = nI 3 from rfl, m_inState hN g4 (by omega) m4 hl.2.1, z_ob1, m_sumOf hN (by omega) (by omega) g4 (by omega) m4 (fun k hk => (ml k hk).2), z_ob1]
theorem e_balloonsIn {N : Nat} (hN : 100 < N) (hG : WF G) (hc : RGc G regions balloons letters loft start seed count turnCount risk distance comeback capacity pigeons weight priority turnFrom turnTo follow land aimCount aim) (hm : RGm G mLoft mStart mSeed mRegions mRisk mDistance mBack mWinds mNamed mNR mNW mTurns mTF mTT mTW mBalloons mRoom mPigeons mLetters mWeight mPriority) (hb : RSb G P bst br cg mNow) (x1 : Int32) : ∃ r, f_X8_balloonsIn N regions balloons br x1 = some r ∧ f_X9_balloonsIn N mRegions mBalloons mNow x1 = some (r, 0) := by
  obtain ⟨⟨g0, g1, g2, g3, g4, g5, g6, g7⟩, gr, ⟨gna, gn1, gn2, gn3⟩, ⟨gt1, gt2, gt3⟩, gb, gl⟩ := hG
  obtain ⟨⟨rfl, rfl, rfl, rfl, rfl, rfl, rfl, rfl⟩, cr, cb, cl, ct, cf, cla, cac, cai⟩ := hc
  obtain ⟨⟨m0, m1, m2, m3, m4, rfl, rfl, rfl⟩, mr, mb, ml, mt, mna, mnr⟩ := hm
  unfold f_X8_balloonsIn f_X9_balloonsIn
  rw [z_hasR, z_ob1, z_gI0 (by omega) (by omega), z_c0, m0, z_within (by omega), z_ob1]
  simp only [z_01]
  by_cases h : x1 < 0 ∨ nI (G 0 0) ≤ x1
  · exact ⟨_, if_pos h, if_pos h⟩
  have key : ∀ (m i : Nat) (a : Int32), i ≤ G 0 3 → G 0 3 - i < m → ∃ r, f_X6_cameDownIn_5 N (nI (G 0 3)) br x1 m (nI i) a = some (nI (G 0 3), r) ∧ f_X9_balloonsIn_27 N mBalloons mNow x1 m (nI i) a = some (nI (G 0 3), r) := by
    intro m
    induction m with
    | zero => intro i a h1 h2; omega
    | succ m ih =>
      intro i a h1 h2
      rw [f_X6_cameDownIn_5.eq_2, f_X9_balloonsIn_27.eq_2, z_gI0 (by omega) (by omega), z_c0, m3]
      by_cases hh : i < G 0 3
      · have b1 := hb.2.1 i (by omega)
        have e0 : a + 0 = a := Int32.add_zero a
        have e1 : nI i + 1 = nI (i + 1) := nI_1 i
        simp (disch := omega) only [show (15 : Int32) = nI 15 from rfl, z_le, z_add, z_gIx, z_cl, b1, e0, e1, if_neg]
        by_cases e : mNow (15 + i) = x1
        · rw [if_pos e, if_pos e]; exact ih (i + 1) _ (by omega) (by omega)
        · rw [if_neg e, if_neg e]; exact ih (i + 1) _ (by omega) (by omega)
      · have : i = G 0 3 := by omega
        subst this
        exact ⟨a, by simp (disch := omega) only [z_le, if_pos], by simp (disch := omega) only [z_le, if_pos]⟩
  obtain ⟨r, k1, k2⟩ := key N 0 0 (by omega) (by omega)
  refine ⟨r, (if_neg h).trans ?_, (if_neg h).trans ?_⟩
  · unfold f_X6_cameDownIn; rw [show (0 : Int32) = nI 0 from rfl] at *; rw [k1, z_ob2, z_ob1]
  · exact ob2_of k2
end
