theorem RelX_mono {T : Nat} {tl : Int32} {ep : Int32} {und : Int32} {nw : Int32} {tx : Nat → Int32} {planned : Int32} {pw : Int32} {pr : Int32} {best : Nat → Int64} {chosen : Nat → Int32} {sf : Nat → Int32} {day : Int32} {wind : Int32} {loftN : Int32} {lost : Int32} {lc : Int32} {ds : Int64} {jc : Int32} {jk : Nat → Int32} {jn : Nat → Int32} {jd : Nat → Int32} {bst : Nat → Int32} {br : Nat → Int32} {cg : Nat → Int32} {lt : Nat → Int32} {an : Nat → Int32} {ho : Nat → Int32} {du : Nat → Int32} {la : Nat → Int32} {regions : Int32} {balloons : Int32} {letters : Int32} {loft : Int32} {start : Int32} {seed : Int32} {count : Int32} {turnCount : Int32} {turnFrom : Nat → Int32} {turnTo : Nat → Int32} {follow : Nat → Int32} {land : Nat → Int32} {aimCount : Nat → Int32} {aim : Nat → Int32} {risk : Nat → Int32} {distance : Nat → Int32} {comeback : Nat → Int32} {capacity : Nat → Int32} {pigeons : Nat → Int32} {weight : Nat → Int32} {priority : Nat → Int32} {hist : Nat → SV} {slots : Nat → SV} {mLoft : Int32} {mStart : Int32} {mSeed : Int32} {ml : Int32} {ea : Int32} {mund : Int32} {mNow : Nat → Int32} {mRegions : Nat → Int32} {mRisk : Nat → Int32} {mDistance : Nat → Int32} {mBack : Nat → Int32} {mWinds : Nat → Int32} {mNamed : Nat → Int32} {mNR : Nat → Int32} {mNW : Nat → Int32} {mTurns : Nat → Int32} {mTF : Nat → Int32} {mTT : Nat → Int32} {mTW : Nat → Int32} {mBalloons : Nat → Int32} {mRoom : Nat → Int32} {mPigeons : Nat → Int32} {mLetters : Nat → Int32} {mWeight : Nat → Int32} {mPriority : Nat → Int32} {mtx : Nat → Int32} {undo : Nat → Int32} {ms : Nat → Int32} {sv : Nat → Int32} (h : RelX T tl ep und nw tx planned pw pr best chosen sf day wind loftN lost lc ds jc jk jn jd bst br cg lt an ho du la regions balloons letters loft start seed count turnCount turnFrom turnTo follow land aimCount aim risk distance comeback capacity pigeons weight priority hist slots mLoft mStart mSeed ml ea mund mNow mRegions mRisk mDistance mBack mWinds mNamed mNR mNW mTurns mTF mTT mTW mBalloons mRoom mPigeons mLetters mWeight mPriority mtx undo ms sv) : RelX (T + 1) tl ep und nw tx planned pw pr best chosen sf day wind loftN lost lc ds jc jk jn jd bst br cg lt an ho du la regions balloons letters loft start seed count turnCount turnFrom turnTo follow land aimCount aim risk distance comeback capacity pigeons weight priority hist slots mLoft mStart mSeed ml ea mund mNow mRegions mRisk mDistance mBack mWinds mNamed mNR mNW mTurns mTF mTT mTW mBalloons mRoom mPigeons mLetters mWeight mPriority mtx undo ms sv := by
  obtain ⟨G, L, mu, q, hG, hc, hm, hs, hp, ht, he, ⟨h1, h2, h3, hh⟩, hsl⟩ := h
  exact ⟨G, L, mu, q, hG, hc, hm, hs.mono (Nat.le_succ T), hp, ht, he, ⟨h1, h2, h3, hh.mono (Nat.le_succ T)⟩, hsl.mono (Nat.le_succ T)⟩
theorem lgc_self (a : Int64) : lg_cmp a a = 0 := (lg_cmp_eq a a).mpr rfl
theorem p_append {N T L j : Nat} {xs : Nat → Int32} {K : SC → SM → Option Unit} {sC : SC} {sM : SM} (hN : 3000 < N) (hN2 : N < 2 ^ 31) (hT : T ≤ 1000) (hL : L ≤ 3072) (hj : j + 6 ≤ L) (h : Rel T sC sM) (hK : ∀ sC' sM', Rel (T + 1) sC' sM' → K sC' sM' = some ()) : fop_append N xs L K (nI j) sC sM = some () := by
  have e1 : nI j + 1 = nI (j + 1) := z_add j 1
  have e2 : nI j + 2 = nI (j + 2) := z_add j 2
  have e3 : nI j + 3 = nI (j + 3) := z_add j 3
  have e4 : nI j + 4 = nI (j + 4) := z_add j 4
  have e5 : nI j + 5 = nI (j + 5) := z_add j 5
  obtain ⟨r, sC', sM', p1, p2, p3⟩ := r_append (N := N) hN hN2 hT h (xs (nI (j + 1)).toNatClampNeg) (xs (nI (j + 2)).toNatClampNeg) (xs (nI (j + 3)).toNatClampNeg) (xs (nI (j + 4)).toNatClampNeg) (xs (nI (j + 5)).toNatClampNeg)
  unfold fop_append
  rw [e1, e2, e3, e4, e5, z_gIx (i := j + 1) (n := L) (by omega) (by omega), z_gIx (i := j + 2) (n := L) (by omega) (by omega), z_gIx (i := j + 3) (n := L) (by omega) (by omega), z_gIx (i := j + 4) (n := L) (by omega) (by omega), z_gIx (i := j + 5) (n := L) (by omega) (by omega), p1, z_ob2, p2, z_ob2, if_pos rfl]
  exact hK _ _ (p3.mono (Nat.le_succ T))
theorem p_parse {N T L j : Nat} {xs : Nat → Int32} {K : SC → SM → Option Unit} {sC : SC} {sM : SM} (hN : 3000 < N) (hN2 : N < 2 ^ 31) (hT : T ≤ 1000) (hL : L ≤ 3072) (hj : j + 6 ≤ L) (h : Rel T sC sM) (hK : ∀ sC' sM', Rel (T + 1) sC' sM' → K sC' sM' = some ()) : fop_parse N xs L K (nI j) sC sM = some () := by
  have e1 : nI j + 1 = nI (j + 1) := z_add j 1
  obtain ⟨r, b1, b2, sC', sM', p1, p2, p3⟩ := r_parse (N := N) hN hN2 hT h (xs (nI (j + 1)).toNatClampNeg)
  unfold fop_parse
  rw [e1, z_gIx (i := j + 1) (n := L) (by omega) (by omega), p1, z_ob4, p2, z_ob2, if_pos rfl]
  exact hK _ _ (p3.mono (Nat.le_succ T))
theorem p_errorPosition {N T L j : Nat} {xs : Nat → Int32} {K : SC → SM → Option Unit} {sC : SC} {sM : SM} (hN : 3000 < N) (hN2 : N < 2 ^ 31) (hT : T ≤ 1000) (hL : L ≤ 3072) (hj : j + 6 ≤ L) (h : Rel T sC sM) (hK : ∀ sC' sM', Rel (T + 1) sC' sM' → K sC' sM' = some ()) : fop_errorPosition N xs L K (nI j) sC sM = some () := by
  obtain ⟨r, sC', sM', p1, p2, p3⟩ := r_errorPosition (N := N) hN hN2 hT h
  unfold fop_errorPosition
  rw [p1, z_ob2, p2, z_ob2, if_pos rfl]
  exact hK _ _ (p3.mono (Nat.le_succ T))
theorem p_regionCount {N T L j : Nat} {xs : Nat → Int32} {K : SC → SM → Option Unit} {sC : SC} {sM : SM} (hN : 3000 < N) (hN2 : N < 2 ^ 31) (hT : T ≤ 1000) (hL : L ≤ 3072) (hj : j + 6 ≤ L) (h : Rel T sC sM) (hK : ∀ sC' sM', Rel (T + 1) sC' sM' → K sC' sM' = some ()) : fop_regionCount N xs L K (nI j) sC sM = some () := by
  obtain ⟨r, sC', sM', p1, p2, p3⟩ := r_regionCount (N := N) hN hN2 hT h
  unfold fop_regionCount
  rw [p1, z_ob2, p2, z_ob2, if_pos rfl]
  exact hK _ _ (p3.mono (Nat.le_succ T))
theorem p_windCount {N T L j : Nat} {xs : Nat → Int32} {K : SC → SM → Option Unit} {sC : SC} {sM : SM} (hN : 3000 < N) (hN2 : N < 2 ^ 31) (hT : T ≤ 1000) (hL : L ≤ 3072) (hj : j + 6 ≤ L) (h : Rel T sC sM) (hK : ∀ sC' sM', Rel (T + 1) sC' sM' → K sC' sM' = some ()) : fop_windCount N xs L K (nI j) sC sM = some () := by
  obtain ⟨r, sC', sM', p1, p2, p3⟩ := r_windCount (N := N) hN hN2 hT h
  unfold fop_windCount
  rw [p1, z_ob2, p2, z_ob2, if_pos rfl]
  exact hK _ _ (p3.mono (Nat.le_succ T))
theorem p_balloonCount {N T L j : Nat} {xs : Nat → Int32} {K : SC → SM → Option Unit} {sC : SC} {sM : SM} (hN : 3000 < N) (hN2 : N < 2 ^ 31) (hT : T ≤ 1000) (hL : L ≤ 3072) (hj : j + 6 ≤ L) (h : Rel T sC sM) (hK : ∀ sC' sM', Rel (T + 1) sC' sM' → K sC' sM' = some ()) : fop_balloonCount N xs L K (nI j) sC sM = some () := by
  obtain ⟨r, sC', sM', p1, p2, p3⟩ := r_balloonCount (N := N) hN hN2 hT h
  unfold fop_balloonCount
  rw [p1, z_ob2, p2, z_ob2, if_pos rfl]
  exact hK _ _ (p3.mono (Nat.le_succ T))
theorem p_letterCount {N T L j : Nat} {xs : Nat → Int32} {K : SC → SM → Option Unit} {sC : SC} {sM : SM} (hN : 3000 < N) (hN2 : N < 2 ^ 31) (hT : T ≤ 1000) (hL : L ≤ 3072) (hj : j + 6 ≤ L) (h : Rel T sC sM) (hK : ∀ sC' sM', Rel (T + 1) sC' sM' → K sC' sM' = some ()) : fop_letterCount N xs L K (nI j) sC sM = some () := by
  obtain ⟨r, sC', sM', p1, p2, p3⟩ := r_letterCount (N := N) hN hN2 hT h
  unfold fop_letterCount
  rw [p1, z_ob2, p2, z_ob2, if_pos rfl]
  exact hK _ _ (p3.mono (Nat.le_succ T))
theorem p_capacity {N T L j : Nat} {xs : Nat → Int32} {K : SC → SM → Option Unit} {sC : SC} {sM : SM} (hN : 3000 < N) (hN2 : N < 2 ^ 31) (hT : T ≤ 1000) (hL : L ≤ 3072) (hj : j + 6 ≤ L) (h : Rel T sC sM) (hK : ∀ sC' sM', Rel (T + 1) sC' sM' → K sC' sM' = some ()) : fop_capacity N xs L K (nI j) sC sM = some () := by
  have e1 : nI j + 1 = nI (j + 1) := z_add j 1
  obtain ⟨r, sC', sM', p1, p2, p3⟩ := r_capacity (N := N) hN hN2 hT h (xs (nI (j + 1)).toNatClampNeg)
  unfold fop_capacity
  rw [e1, z_gIx (i := j + 1) (n := L) (by omega) (by omega), p1, z_ob2, p2, z_ob2, if_pos rfl]
  exact hK _ _ (p3.mono (Nat.le_succ T))
theorem p_letterWeight {N T L j : Nat} {xs : Nat → Int32} {K : SC → SM → Option Unit} {sC : SC} {sM : SM} (hN : 3000 < N) (hN2 : N < 2 ^ 31) (hT : T ≤ 1000) (hL : L ≤ 3072) (hj : j + 6 ≤ L) (h : Rel T sC sM) (hK : ∀ sC' sM', Rel (T + 1) sC' sM' → K sC' sM' = some ()) : fop_letterWeight N xs L K (nI j) sC sM = some () := by
  have e1 : nI j + 1 = nI (j + 1) := z_add j 1
  obtain ⟨r, sC', sM', p1, p2, p3⟩ := r_letterWeight (N := N) hN hN2 hT h (xs (nI (j + 1)).toNatClampNeg)
  unfold fop_letterWeight
  rw [e1, z_gIx (i := j + 1) (n := L) (by omega) (by omega), p1, z_ob2, p2, z_ob2, if_pos rfl]
  exact hK _ _ (p3.mono (Nat.le_succ T))
theorem p_windChance {N T L j : Nat} {xs : Nat → Int32} {K : SC → SM → Option Unit} {sC : SC} {sM : SM} (hN : 3000 < N) (hN2 : N < 2 ^ 31) (hT : T ≤ 1000) (hL : L ≤ 3072) (hj : j + 6 ≤ L) (h : Rel T sC sM) (hK : ∀ sC' sM', Rel (T + 1) sC' sM' → K sC' sM' = some ()) : fop_windChance N xs L K (nI j) sC sM = some () := by
  have e1 : nI j + 1 = nI (j + 1) := z_add j 1
  have e2 : nI j + 2 = nI (j + 2) := z_add j 2
  obtain ⟨r, sC', sM', p1, p2, p3⟩ := r_windChance (N := N) hN hN2 hT h (xs (nI (j + 1)).toNatClampNeg) (xs (nI (j + 2)).toNatClampNeg)
  unfold fop_windChance
  rw [e1, e2, z_gIx (i := j + 1) (n := L) (by omega) (by omega), z_gIx (i := j + 2) (n := L) (by omega) (by omega), p1, z_ob2, p2, z_ob2, lgc_self, if_pos rfl]
  exact hK _ _ (p3.mono (Nat.le_succ T))
theorem p_avoidChance {N T L j : Nat} {xs : Nat → Int32} {K : SC → SM → Option Unit} {sC : SC} {sM : SM} (hN : 3000 < N) (hN2 : N < 2 ^ 31) (hT : T ≤ 1000) (hL : L ≤ 3072) (hj : j + 6 ≤ L) (h : Rel T sC sM) (hK : ∀ sC' sM', Rel (T + 1) sC' sM' → K sC' sM' = some ()) : fop_avoidChance N xs L K (nI j) sC sM = some () := by
  have e1 : nI j + 1 = nI (j + 1) := z_add j 1
  have e2 : nI j + 2 = nI (j + 2) := z_add j 2
  obtain ⟨r, sC', sM', p1, p2, p3⟩ := r_avoidChance (N := N) hN hN2 hT h (xs (nI (j + 1)).toNatClampNeg) (xs (nI (j + 2)).toNatClampNeg)
  unfold fop_avoidChance
  rw [e1, e2, z_gIx (i := j + 1) (n := L) (by omega) (by omega), z_gIx (i := j + 2) (n := L) (by omega) (by omega), p1, z_ob2, p2, z_ob2, lgc_self, if_pos rfl]
  exact hK _ _ (p3.mono (Nat.le_succ T))
theorem p_landingChance {N T L j : Nat} {xs : Nat → Int32} {K : SC → SM → Option Unit} {sC : SC} {sM : SM} (hN : 3000 < N) (hN2 : N < 2 ^ 31) (hT : T ≤ 1000) (hL : L ≤ 3072) (hj : j + 6 ≤ L) (h : Rel T sC sM) (hK : ∀ sC' sM', Rel (T + 1) sC' sM' → K sC' sM' = some ()) : fop_landingChance N xs L K (nI j) sC sM = some () := by
  have e1 : nI j + 1 = nI (j + 1) := z_add j 1
  have e2 : nI j + 2 = nI (j + 2) := z_add j 2
  obtain ⟨r, sC', sM', p1, p2, p3⟩ := r_landingChance (N := N) hN hN2 hT h (xs (nI (j + 1)).toNatClampNeg) (xs (nI (j + 2)).toNatClampNeg)
  unfold fop_landingChance
  rw [e1, e2, z_gIx (i := j + 1) (n := L) (by omega) (by omega), z_gIx (i := j + 2) (n := L) (by omega) (by omega), p1, z_ob2, p2, z_ob2, lgc_self, if_pos rfl]
  exact hK _ _ (p3.mono (Nat.le_succ T))
theorem p_deliveryChance {N T L j : Nat} {xs : Nat → Int32} {K : SC → SM → Option Unit} {sC : SC} {sM : SM} (hN : 3000 < N) (hN2 : N < 2 ^ 31) (hT : T ≤ 1000) (hL : L ≤ 3072) (hj : j + 6 ≤ L) (h : Rel T sC sM) (hK : ∀ sC' sM', Rel (T + 1) sC' sM' → K sC' sM' = some ()) : fop_deliveryChance N xs L K (nI j) sC sM = some () := by
  have e1 : nI j + 1 = nI (j + 1) := z_add j 1
  obtain ⟨r, sC', sM', p1, p2, p3⟩ := r_deliveryChance (N := N) hN hN2 hT h (xs (nI (j + 1)).toNatClampNeg)
  unfold fop_deliveryChance
  rw [e1, z_gIx (i := j + 1) (n := L) (by omega) (by omega), p1, z_ob2, p2, z_ob2, lgc_self, if_pos rfl]
  exact hK _ _ (p3.mono (Nat.le_succ T))
theorem p_answerChance {N T L j : Nat} {xs : Nat → Int32} {K : SC → SM → Option Unit} {sC : SC} {sM : SM} (hN : 3000 < N) (hN2 : N < 2 ^ 31) (hT : T ≤ 1000) (hL : L ≤ 3072) (hj : j + 6 ≤ L) (h : Rel T sC sM) (hK : ∀ sC' sM', Rel (T + 1) sC' sM' → K sC' sM' = some ()) : fop_answerChance N xs L K (nI j) sC sM = some () := by
  have e1 : nI j + 1 = nI (j + 1) := z_add j 1
  have e2 : nI j + 2 = nI (j + 2) := z_add j 2
  obtain ⟨r, sC', sM', p1, p2, p3⟩ := r_answerChance (N := N) hN hN2 hT h (xs (nI (j + 1)).toNatClampNeg) (xs (nI (j + 2)).toNatClampNeg)
  unfold fop_answerChance
  rw [e1, e2, z_gIx (i := j + 1) (n := L) (by omega) (by omega), z_gIx (i := j + 2) (n := L) (by omega) (by omega), p1, z_ob2, p2, z_ob2, lgc_self, if_pos rfl]
  exact hK _ _ (p3.mono (Nat.le_succ T))
theorem p_answerPermille {N T L j : Nat} {xs : Nat → Int32} {K : SC → SM → Option Unit} {sC : SC} {sM : SM} (hN : 3000 < N) (hN2 : N < 2 ^ 31) (hT : T ≤ 1000) (hL : L ≤ 3072) (hj : j + 6 ≤ L) (h : Rel T sC sM) (hK : ∀ sC' sM', Rel (T + 1) sC' sM' → K sC' sM' = some ()) : fop_answerPermille N xs L K (nI j) sC sM = some () := by
  have e1 : nI j + 1 = nI (j + 1) := z_add j 1
  have e2 : nI j + 2 = nI (j + 2) := z_add j 2
  obtain ⟨r, sC', sM', p1, p2, p3⟩ := r_answerPermille (N := N) hN hN2 hT h (xs (nI (j + 1)).toNatClampNeg) (xs (nI (j + 2)).toNatClampNeg)
  unfold fop_answerPermille
  rw [e1, e2, z_gIx (i := j + 1) (n := L) (by omega) (by omega), z_gIx (i := j + 2) (n := L) (by omega) (by omega), p1, z_ob2, p2, z_ob2, if_pos rfl]
  exact hK _ _ (p3.mono (Nat.le_succ T))
theorem p_bestDay {N T L j : Nat} {xs : Nat → Int32} {K : SC → SM → Option Unit} {sC : SC} {sM : SM} (hN : 3000 < N) (hN2 : N < 2 ^ 31) (hT : T ≤ 1000) (hL : L ≤ 3072) (hj : j + 6 ≤ L) (h : Rel T sC sM) (hK : ∀ sC' sM', Rel (T + 1) sC' sM' → K sC' sM' = some ()) : fop_bestDay N xs L K (nI j) sC sM = some () := by
  have e1 : nI j + 1 = nI (j + 1) := z_add j 1
  obtain ⟨r, sC', sM', p1, p2, p3⟩ := r_bestDay (N := N) hN hN2 hT h (xs (nI (j + 1)).toNatClampNeg)
  unfold fop_bestDay
  rw [e1, z_gIx (i := j + 1) (n := L) (by omega) (by omega), p1, z_ob2, p2, z_ob2, if_pos rfl]
  exact hK _ _ (p3.mono (Nat.le_succ T))
theorem p_assignmentTotal {N T L j : Nat} {xs : Nat → Int32} {K : SC → SM → Option Unit} {sC : SC} {sM : SM} (hN : 3000 < N) (hN2 : N < 2 ^ 31) (hT : T ≤ 1000) (hL : L ≤ 3072) (hj : j + 6 ≤ L) (h : Rel T sC sM) (hK : ∀ sC' sM', Rel (T + 1) sC' sM' → K sC' sM' = some ()) : fop_assignmentTotal N xs L K (nI j) sC sM = some () := by
  obtain ⟨r, sC', sM', p1, p2, p3⟩ := r_assignmentTotal (N := N) hN hN2 hT h
  unfold fop_assignmentTotal
  rw [p1, z_ob2, p2, z_ob2, lgc_self, if_pos rfl]
  exact hK _ _ (p3.mono (Nat.le_succ T))
theorem p_assignedDay {N T L j : Nat} {xs : Nat → Int32} {K : SC → SM → Option Unit} {sC : SC} {sM : SM} (hN : 3000 < N) (hN2 : N < 2 ^ 31) (hT : T ≤ 1000) (hL : L ≤ 3072) (hj : j + 6 ≤ L) (h : Rel T sC sM) (hK : ∀ sC' sM', Rel (T + 1) sC' sM' → K sC' sM' = some ()) : fop_assignedDay N xs L K (nI j) sC sM = some () := by
  have e1 : nI j + 1 = nI (j + 1) := z_add j 1
  obtain ⟨r, sC', sM', p1, p2, p3⟩ := r_assignedDay (N := N) hN hN2 hT h (xs (nI (j + 1)).toNatClampNeg)
  unfold fop_assignedDay
  rw [e1, z_gIx (i := j + 1) (n := L) (by omega) (by omega), p1, z_ob2, p2, z_ob2, if_pos rfl]
  exact hK _ _ (p3.mono (Nat.le_succ T))
theorem p_bestLoad {N T L j : Nat} {xs : Nat → Int32} {K : SC → SM → Option Unit} {sC : SC} {sM : SM} (hN : 3000 < N) (hN2 : N < 2 ^ 31) (hT : T ≤ 1000) (hL : L ≤ 3072) (hj : j + 6 ≤ L) (h : Rel T sC sM) (hK : ∀ sC' sM', Rel (T + 1) sC' sM' → K sC' sM' = some ()) : fop_bestLoad N xs L K (nI j) sC sM = some () := by
  have e1 : nI j + 1 = nI (j + 1) := z_add j 1
  obtain ⟨r, sC', sM', p1, p2, p3⟩ := r_bestLoad (N := N) hN hN2 hT h (xs (nI (j + 1)).toNatClampNeg)
  unfold fop_bestLoad
  rw [e1, z_gIx (i := j + 1) (n := L) (by omega) (by omega), p1, z_ob2, p2, z_ob2, if_pos rfl]
  exact hK _ _ (p3.mono (Nat.le_succ T))
theorem p_weightOf {N T L j : Nat} {xs : Nat → Int32} {K : SC → SM → Option Unit} {sC : SC} {sM : SM} (hN : 3000 < N) (hN2 : N < 2 ^ 31) (hT : T ≤ 1000) (hL : L ≤ 3072) (hj : j + 6 ≤ L) (h : Rel T sC sM) (hK : ∀ sC' sM', Rel (T + 1) sC' sM' → K sC' sM' = some ()) : fop_weightOf N xs L K (nI j) sC sM = some () := by
  have e1 : nI j + 1 = nI (j + 1) := z_add j 1
  obtain ⟨r, sC', sM', p1, p2, p3⟩ := r_weightOf (N := N) hN hN2 hT h (xs (nI (j + 1)).toNatClampNeg)
  unfold fop_weightOf
  rw [e1, z_gIx (i := j + 1) (n := L) (by omega) (by omega), p1, z_ob2, p2, z_ob2, if_pos rfl]
  exact hK _ _ (p3.mono (Nat.le_succ T))
theorem p_priorityOf {N T L j : Nat} {xs : Nat → Int32} {K : SC → SM → Option Unit} {sC : SC} {sM : SM} (hN : 3000 < N) (hN2 : N < 2 ^ 31) (hT : T ≤ 1000) (hL : L ≤ 3072) (hj : j + 6 ≤ L) (h : Rel T sC sM) (hK : ∀ sC' sM', Rel (T + 1) sC' sM' → K sC' sM' = some ()) : fop_priorityOf N xs L K (nI j) sC sM = some () := by
  have e1 : nI j + 1 = nI (j + 1) := z_add j 1
  obtain ⟨r, sC', sM', p1, p2, p3⟩ := r_priorityOf (N := N) hN hN2 hT h (xs (nI (j + 1)).toNatClampNeg)
  unfold fop_priorityOf
  rw [e1, z_gIx (i := j + 1) (n := L) (by omega) (by omega), p1, z_ob2, p2, z_ob2, if_pos rfl]
  exact hK _ _ (p3.mono (Nat.le_succ T))
theorem p_lettersIn {N T L j : Nat} {xs : Nat → Int32} {K : SC → SM → Option Unit} {sC : SC} {sM : SM} (hN : 3000 < N) (hN2 : N < 2 ^ 31) (hT : T ≤ 1000) (hL : L ≤ 3072) (hj : j + 6 ≤ L) (h : Rel T sC sM) (hK : ∀ sC' sM', Rel (T + 1) sC' sM' → K sC' sM' = some ()) : fop_lettersIn N xs L K (nI j) sC sM = some () := by
  have e1 : nI j + 1 = nI (j + 1) := z_add j 1
  obtain ⟨r, sC', sM', p1, p2, p3⟩ := r_lettersIn (N := N) hN hN2 hT h (xs (nI (j + 1)).toNatClampNeg)
  unfold fop_lettersIn
  rw [e1, z_gIx (i := j + 1) (n := L) (by omega) (by omega), p1, z_ob2, p2, z_ob2, if_pos rfl]
  exact hK _ _ (p3.mono (Nat.le_succ T))
theorem p_day {N T L j : Nat} {xs : Nat → Int32} {K : SC → SM → Option Unit} {sC : SC} {sM : SM} (hN : 3000 < N) (hN2 : N < 2 ^ 31) (hT : T ≤ 1000) (hL : L ≤ 3072) (hj : j + 6 ≤ L) (h : Rel T sC sM) (hK : ∀ sC' sM', Rel (T + 1) sC' sM' → K sC' sM' = some ()) : fop_day N xs L K (nI j) sC sM = some () := by
  obtain ⟨r, sC', sM', p1, p2, p3⟩ := r_day (N := N) hN hN2 hT h
  unfold fop_day
  rw [p1, z_ob2, p2, z_ob2, if_pos rfl]
  exact hK _ _ (p3.mono (Nat.le_succ T))
theorem p_wind {N T L j : Nat} {xs : Nat → Int32} {K : SC → SM → Option Unit} {sC : SC} {sM : SM} (hN : 3000 < N) (hN2 : N < 2 ^ 31) (hT : T ≤ 1000) (hL : L ≤ 3072) (hj : j + 6 ≤ L) (h : Rel T sC sM) (hK : ∀ sC' sM', Rel (T + 1) sC' sM' → K sC' sM' = some ()) : fop_wind N xs L K (nI j) sC sM = some () := by
  obtain ⟨r, sC', sM', p1, p2, p3⟩ := r_wind (N := N) hN hN2 hT h
  unfold fop_wind
  rw [p1, z_ob2, p2, z_ob2, if_pos rfl]
  exact hK _ _ (p3.mono (Nat.le_succ T))
theorem p_launch {N T L j : Nat} {xs : Nat → Int32} {K : SC → SM → Option Unit} {sC : SC} {sM : SM} (hN : 3000 < N) (hN2 : N < 2 ^ 31) (hT : T ≤ 1000) (hL : L ≤ 3072) (hj : j + 6 ≤ L) (h : Rel T sC sM) (hK : ∀ sC' sM', Rel (T + 1) sC' sM' → K sC' sM' = some ()) : fop_launch N xs L K (nI j) sC sM = some () := by
  have e1 : nI j + 1 = nI (j + 1) := z_add j 1
  have e2 : nI j + 2 = nI (j + 2) := z_add j 2
  obtain ⟨r, sC', sM', p1, p2, p3⟩ := r_launch (N := N) hN hN2 hT h (xs (nI (j + 1)).toNatClampNeg) (xs (nI (j + 2)).toNatClampNeg)
  unfold fop_launch
  rw [e1, e2, z_gIx (i := j + 1) (n := L) (by omega) (by omega), z_gIx (i := j + 2) (n := L) (by omega) (by omega), p1, z_ob2, p2, z_ob2, if_pos rfl]
  exact hK _ _ (p3.mono (Nat.le_succ T))
theorem p_nextDay {N T L j : Nat} {xs : Nat → Int32} {K : SC → SM → Option Unit} {sC : SC} {sM : SM} (hN : 3000 < N) (hN2 : N < 2 ^ 31) (hT : T ≤ 1000) (hL : L ≤ 3072) (hj : j + 6 ≤ L) (h : Rel T sC sM) (hK : ∀ sC' sM', Rel (T + 1) sC' sM' → K sC' sM' = some ()) : fop_nextDay N xs L K (nI j) sC sM = some () := by
  obtain ⟨r, sC', sM', p1, p2, p3⟩ := r_nextDay (N := N) hN hN2 hT h
  unfold fop_nextDay
  rw [p1, z_ob2, p2, z_ob2, if_pos rfl]
  exact hK _ _ p3
theorem p_balloonState {N T L j : Nat} {xs : Nat → Int32} {K : SC → SM → Option Unit} {sC : SC} {sM : SM} (hN : 3000 < N) (hN2 : N < 2 ^ 31) (hT : T ≤ 1000) (hL : L ≤ 3072) (hj : j + 6 ≤ L) (h : Rel T sC sM) (hK : ∀ sC' sM', Rel (T + 1) sC' sM' → K sC' sM' = some ()) : fop_balloonState N xs L K (nI j) sC sM = some () := by
  have e1 : nI j + 1 = nI (j + 1) := z_add j 1
  obtain ⟨r, sC', sM', p1, p2, p3⟩ := r_balloonState (N := N) hN hN2 hT h (xs (nI (j + 1)).toNatClampNeg)
  unfold fop_balloonState
  rw [e1, z_gIx (i := j + 1) (n := L) (by omega) (by omega), p1, z_ob2, p2, z_ob2, if_pos rfl]
  exact hK _ _ (p3.mono (Nat.le_succ T))
theorem p_balloonRegion {N T L j : Nat} {xs : Nat → Int32} {K : SC → SM → Option Unit} {sC : SC} {sM : SM} (hN : 3000 < N) (hN2 : N < 2 ^ 31) (hT : T ≤ 1000) (hL : L ≤ 3072) (hj : j + 6 ≤ L) (h : Rel T sC sM) (hK : ∀ sC' sM', Rel (T + 1) sC' sM' → K sC' sM' = some ()) : fop_balloonRegion N xs L K (nI j) sC sM = some () := by
  have e1 : nI j + 1 = nI (j + 1) := z_add j 1
  obtain ⟨r, sC', sM', p1, p2, p3⟩ := r_balloonRegion (N := N) hN hN2 hT h (xs (nI (j + 1)).toNatClampNeg)
  unfold fop_balloonRegion
  rw [e1, z_gIx (i := j + 1) (n := L) (by omega) (by omega), p1, z_ob2, p2, z_ob2, if_pos rfl]
  exact hK _ _ (p3.mono (Nat.le_succ T))
theorem p_cargo {N T L j : Nat} {xs : Nat → Int32} {K : SC → SM → Option Unit} {sC : SC} {sM : SM} (hN : 3000 < N) (hN2 : N < 2 ^ 31) (hT : T ≤ 1000) (hL : L ≤ 3072) (hj : j + 6 ≤ L) (h : Rel T sC sM) (hK : ∀ sC' sM', Rel (T + 1) sC' sM' → K sC' sM' = some ()) : fop_cargo N xs L K (nI j) sC sM = some () := by
  have e1 : nI j + 1 = nI (j + 1) := z_add j 1
  obtain ⟨r, sC', sM', p1, p2, p3⟩ := r_cargo (N := N) hN hN2 hT h (xs (nI (j + 1)).toNatClampNeg)
  unfold fop_cargo
  rw [e1, z_gIx (i := j + 1) (n := L) (by omega) (by omega), p1, z_ob2, p2, z_ob2, if_pos rfl]
  exact hK _ _ (p3.mono (Nat.le_succ T))
theorem p_letterState {N T L j : Nat} {xs : Nat → Int32} {K : SC → SM → Option Unit} {sC : SC} {sM : SM} (hN : 3000 < N) (hN2 : N < 2 ^ 31) (hT : T ≤ 1000) (hL : L ≤ 3072) (hj : j + 6 ≤ L) (h : Rel T sC sM) (hK : ∀ sC' sM', Rel (T + 1) sC' sM' → K sC' sM' = some ()) : fop_letterState N xs L K (nI j) sC sM = some () := by
  have e1 : nI j + 1 = nI (j + 1) := z_add j 1
  obtain ⟨r, sC', sM', p1, p2, p3⟩ := r_letterState (N := N) hN hN2 hT h (xs (nI (j + 1)).toNatClampNeg)
  unfold fop_letterState
  rw [e1, z_gIx (i := j + 1) (n := L) (by omega) (by omega), p1, z_ob2, p2, z_ob2, if_pos rfl]
  exact hK _ _ (p3.mono (Nat.le_succ T))
theorem p_answerDay {N T L j : Nat} {xs : Nat → Int32} {K : SC → SM → Option Unit} {sC : SC} {sM : SM} (hN : 3000 < N) (hN2 : N < 2 ^ 31) (hT : T ≤ 1000) (hL : L ≤ 3072) (hj : j + 6 ≤ L) (h : Rel T sC sM) (hK : ∀ sC' sM', Rel (T + 1) sC' sM' → K sC' sM' = some ()) : fop_answerDay N xs L K (nI j) sC sM = some () := by
  have e1 : nI j + 1 = nI (j + 1) := z_add j 1
  obtain ⟨r, sC', sM', p1, p2, p3⟩ := r_answerDay (N := N) hN hN2 hT h (xs (nI (j + 1)).toNatClampNeg)
  unfold fop_answerDay
  rw [e1, z_gIx (i := j + 1) (n := L) (by omega) (by omega), p1, z_ob2, p2, z_ob2, if_pos rfl]
  exact hK _ _ (p3.mono (Nat.le_succ T))
theorem p_pigeonsInLoft {N T L j : Nat} {xs : Nat → Int32} {K : SC → SM → Option Unit} {sC : SC} {sM : SM} (hN : 3000 < N) (hN2 : N < 2 ^ 31) (hT : T ≤ 1000) (hL : L ≤ 3072) (hj : j + 6 ≤ L) (h : Rel T sC sM) (hK : ∀ sC' sM', Rel (T + 1) sC' sM' → K sC' sM' = some ()) : fop_pigeonsInLoft N xs L K (nI j) sC sM = some () := by
  obtain ⟨r, sC', sM', p1, p2, p3⟩ := r_pigeonsInLoft (N := N) hN hN2 hT h
  unfold fop_pigeonsInLoft
  rw [p1, z_ob2, p2, z_ob2, if_pos rfl]
  exact hK _ _ (p3.mono (Nat.le_succ T))
theorem p_pigeonsOnTheWay {N T L j : Nat} {xs : Nat → Int32} {K : SC → SM → Option Unit} {sC : SC} {sM : SM} (hN : 3000 < N) (hN2 : N < 2 ^ 31) (hT : T ≤ 1000) (hL : L ≤ 3072) (hj : j + 6 ≤ L) (h : Rel T sC sM) (hK : ∀ sC' sM', Rel (T + 1) sC' sM' → K sC' sM' = some ()) : fop_pigeonsOnTheWay N xs L K (nI j) sC sM = some () := by
  obtain ⟨r, sC', sM', p1, p2, p3⟩ := r_pigeonsOnTheWay (N := N) hN hN2 hT h
  unfold fop_pigeonsOnTheWay
  rw [p1, z_ob2, p2, z_ob2, if_pos rfl]
  exact hK _ _ (p3.mono (Nat.le_succ T))
theorem p_pigeonsLost {N T L j : Nat} {xs : Nat → Int32} {K : SC → SM → Option Unit} {sC : SC} {sM : SM} (hN : 3000 < N) (hN2 : N < 2 ^ 31) (hT : T ≤ 1000) (hL : L ≤ 3072) (hj : j + 6 ≤ L) (h : Rel T sC sM) (hK : ∀ sC' sM', Rel (T + 1) sC' sM' → K sC' sM' = some ()) : fop_pigeonsLost N xs L K (nI j) sC sM = some () := by
  obtain ⟨r, sC', sM', p1, p2, p3⟩ := r_pigeonsLost (N := N) hN hN2 hT h
  unfold fop_pigeonsLost
  rw [p1, z_ob2, p2, z_ob2, if_pos rfl]
  exact hK _ _ (p3.mono (Nat.le_succ T))
theorem p_nextReturn {N T L j : Nat} {xs : Nat → Int32} {K : SC → SM → Option Unit} {sC : SC} {sM : SM} (hN : 3000 < N) (hN2 : N < 2 ^ 31) (hT : T ≤ 1000) (hL : L ≤ 3072) (hj : j + 6 ≤ L) (h : Rel T sC sM) (hK : ∀ sC' sM', Rel (T + 1) sC' sM' → K sC' sM' = some ()) : fop_nextReturn N xs L K (nI j) sC sM = some () := by
  obtain ⟨r, sC', sM', p1, p2, p3⟩ := r_nextReturn (N := N) hN hN2 hT h
  unfold fop_nextReturn
  rw [p1, z_ob2, p2, z_ob2, if_pos rfl]
  exact hK _ _ (p3.mono (Nat.le_succ T))
theorem p_weightIn {N T L j : Nat} {xs : Nat → Int32} {K : SC → SM → Option Unit} {sC : SC} {sM : SM} (hN : 3000 < N) (hN2 : N < 2 ^ 31) (hT : T ≤ 1000) (hL : L ≤ 3072) (hj : j + 6 ≤ L) (h : Rel T sC sM) (hK : ∀ sC' sM', Rel (T + 1) sC' sM' → K sC' sM' = some ()) : fop_weightIn N xs L K (nI j) sC sM = some () := by
  have e1 : nI j + 1 = nI (j + 1) := z_add j 1
  obtain ⟨r, sC', sM', p1, p2, p3⟩ := r_weightIn (N := N) hN hN2 hT h (xs (nI (j + 1)).toNatClampNeg)
  unfold fop_weightIn
  rw [e1, z_gIx (i := j + 1) (n := L) (by omega) (by omega), p1, z_ob2, p2, z_ob2, if_pos rfl]
  exact hK _ _ (p3.mono (Nat.le_succ T))
theorem p_answeredPriority {N T L j : Nat} {xs : Nat → Int32} {K : SC → SM → Option Unit} {sC : SC} {sM : SM} (hN : 3000 < N) (hN2 : N < 2 ^ 31) (hT : T ≤ 1000) (hL : L ≤ 3072) (hj : j + 6 ≤ L) (h : Rel T sC sM) (hK : ∀ sC' sM', Rel (T + 1) sC' sM' → K sC' sM' = some ()) : fop_answeredPriority N xs L K (nI j) sC sM = some () := by
  obtain ⟨r, sC', sM', p1, p2, p3⟩ := r_answeredPriority (N := N) hN hN2 hT h
  unfold fop_answeredPriority
  rw [p1, z_ob2, p2, z_ob2, if_pos rfl]
  exact hK _ _ (p3.mono (Nat.le_succ T))
theorem p_balloonsIn {N T L j : Nat} {xs : Nat → Int32} {K : SC → SM → Option Unit} {sC : SC} {sM : SM} (hN : 3000 < N) (hN2 : N < 2 ^ 31) (hT : T ≤ 1000) (hL : L ≤ 3072) (hj : j + 6 ≤ L) (h : Rel T sC sM) (hK : ∀ sC' sM', Rel (T + 1) sC' sM' → K sC' sM' = some ()) : fop_balloonsIn N xs L K (nI j) sC sM = some () := by
  have e1 : nI j + 1 = nI (j + 1) := z_add j 1
  obtain ⟨r, sC', sM', p1, p2, p3⟩ := r_balloonsIn (N := N) hN hN2 hT h (xs (nI (j + 1)).toNatClampNeg)
  unfold fop_balloonsIn
  rw [e1, z_gIx (i := j + 1) (n := L) (by omega) (by omega), p1, z_ob2, p2, z_ob2, if_pos rfl]
  exact hK _ _ (p3.mono (Nat.le_succ T))
theorem p_eventCount {N T L j : Nat} {xs : Nat → Int32} {K : SC → SM → Option Unit} {sC : SC} {sM : SM} (hN : 3000 < N) (hN2 : N < 2 ^ 31) (hT : T ≤ 1000) (hL : L ≤ 3072) (hj : j + 6 ≤ L) (h : Rel T sC sM) (hK : ∀ sC' sM', Rel (T + 1) sC' sM' → K sC' sM' = some ()) : fop_eventCount N xs L K (nI j) sC sM = some () := by
  obtain ⟨r, sC', sM', p1, p2, p3⟩ := r_eventCount (N := N) hN hN2 hT h
  unfold fop_eventCount
  rw [p1, z_ob2, p2, z_ob2, if_pos rfl]
  exact hK _ _ (p3.mono (Nat.le_succ T))
theorem p_eventKind {N T L j : Nat} {xs : Nat → Int32} {K : SC → SM → Option Unit} {sC : SC} {sM : SM} (hN : 3000 < N) (hN2 : N < 2 ^ 31) (hT : T ≤ 1000) (hL : L ≤ 3072) (hj : j + 6 ≤ L) (h : Rel T sC sM) (hK : ∀ sC' sM', Rel (T + 1) sC' sM' → K sC' sM' = some ()) : fop_eventKind N xs L K (nI j) sC sM = some () := by
  have e1 : nI j + 1 = nI (j + 1) := z_add j 1
  obtain ⟨⟨tl, ep, und, nw, tx, rda, rdb, rdc, rdd, rde, rdf, rdg, rdh, rdi, now, then_, planned, pw, pr, gain, best, chosen, lightest, sf⟩, ⟨day, wind, loftN, lost, lc, ds, jc, jk, jn, jd, bst, br, cg, lt, an, ho, du, la⟩, ⟨regions, balloons, letters, loft, start, seed, count, turnCount, turnFrom, turnTo, follow, land, aimCount, aim, risk, distance, comeback, capacity, pigeons, weight, priority⟩, ⟨qregions, qballoons, qletters, qloft, qstart, qseed, qcount, qturnCount, qturnFrom, qturnTo, qfollow, qland, qaimCount, qaim, qrisk, qdistance, qcomeback, qcapacity, qpigeons, qweight, qpriority⟩, hist, slots⟩ := sC
  obtain ⟨th, mLoft, mStart, mSeed, dl, dst, dd, ml, ts, mst, mnx, mtk, mv, me, ea, mnu, mund, mNow, mRegions, mRisk, mDistance, mBack, mWinds, mNamed, mNR, mNW, mTurns, mTF, mTT, mTW, mBalloons, mRoom, mPigeons, mLetters, mWeight, mPriority, mtx, chance, chanceNext, total, worth, mBest, undo, ms, sv⟩ := sM
  have hR : RelX T tl ep und nw tx planned pw pr best chosen sf day wind loftN lost lc ds jc jk jn jd bst br cg lt an ho du la regions balloons letters loft start seed count turnCount turnFrom turnTo follow land aimCount aim risk distance comeback capacity pigeons weight priority hist slots mLoft mStart mSeed ml ea mund mNow mRegions mRisk mDistance mBack mWinds mNamed mNR mNW mTurns mTF mTT mTW mBalloons mRoom mPigeons mLetters mWeight mPriority mtx undo ms sv := h
  obtain ⟨G, L9, mu, q, hG, hc, hm, hs, hp, ht, he, hh, hsl⟩ := id hR
  obtain ⟨P, hn, hj9, hb, hl, ha, hf, hi⟩ := id hs
  have hjc := hj9.1
  subst hjc
  unfold fop_eventKind oM_eventKind oM_thrown f_X9_thrown f_X9_eventKind
  rw [e1, z_gIx (i := j + 1) (n := L) (by omega) (by omega)]
  dsimp only
  generalize xs (nI (j + 1)).toNatClampNeg = x
  have hme := m_event (N := N) (at_ := 165) hj9 (by omega) x
  rw [show (165 : Int32) = nI 165 from rfl, hme, z_hasJ, z_ob1]
  have hR1 := RelX_mono hR
  by_cases hx : x < 0 ∨ nI (P 0 4) ≤ x
  · rw [if_pos hx, if_pos hx, z_ob2, z_ob2, z_ob2, z_ob1, z_ob2, if_pos rfl, if_pos rfl]
    exact hK _ _ hR1
  · have hjb := hj9.2.2.1
    have hxx := z_j (by omega) hx
    obtain ⟨k, hk1, rfl⟩ := hxx
    rw [if_neg hx, if_neg hx, z_ob2, z_ob2, z_ob2, z_ob1, z_ob2, if_neg (show ¬ (1 : Int32) = 0 by decide), z_gIx (by omega) (by omega), if_pos rfl, z_cl (by omega), if_pos (show lg_cmp (jk k).toInt64 (mNow (165 + k)).toInt64 = 0 by rw [(hj9.2.2.2 k hk1).1]; exact lgc_self _)]
    exact hK _ _ hR1
theorem p_eventNumber {N T L j : Nat} {xs : Nat → Int32} {K : SC → SM → Option Unit} {sC : SC} {sM : SM} (hN : 3000 < N) (hN2 : N < 2 ^ 31) (hT : T ≤ 1000) (hL : L ≤ 3072) (hj : j + 6 ≤ L) (h : Rel T sC sM) (hK : ∀ sC' sM', Rel (T + 1) sC' sM' → K sC' sM' = some ()) : fop_eventNumber N xs L K (nI j) sC sM = some () := by
  have e1 : nI j + 1 = nI (j + 1) := z_add j 1
  obtain ⟨⟨tl, ep, und, nw, tx, rda, rdb, rdc, rdd, rde, rdf, rdg, rdh, rdi, now, then_, planned, pw, pr, gain, best, chosen, lightest, sf⟩, ⟨day, wind, loftN, lost, lc, ds, jc, jk, jn, jd, bst, br, cg, lt, an, ho, du, la⟩, ⟨regions, balloons, letters, loft, start, seed, count, turnCount, turnFrom, turnTo, follow, land, aimCount, aim, risk, distance, comeback, capacity, pigeons, weight, priority⟩, ⟨qregions, qballoons, qletters, qloft, qstart, qseed, qcount, qturnCount, qturnFrom, qturnTo, qfollow, qland, qaimCount, qaim, qrisk, qdistance, qcomeback, qcapacity, qpigeons, qweight, qpriority⟩, hist, slots⟩ := sC
  obtain ⟨th, mLoft, mStart, mSeed, dl, dst, dd, ml, ts, mst, mnx, mtk, mv, me, ea, mnu, mund, mNow, mRegions, mRisk, mDistance, mBack, mWinds, mNamed, mNR, mNW, mTurns, mTF, mTT, mTW, mBalloons, mRoom, mPigeons, mLetters, mWeight, mPriority, mtx, chance, chanceNext, total, worth, mBest, undo, ms, sv⟩ := sM
  have hR : RelX T tl ep und nw tx planned pw pr best chosen sf day wind loftN lost lc ds jc jk jn jd bst br cg lt an ho du la regions balloons letters loft start seed count turnCount turnFrom turnTo follow land aimCount aim risk distance comeback capacity pigeons weight priority hist slots mLoft mStart mSeed ml ea mund mNow mRegions mRisk mDistance mBack mWinds mNamed mNR mNW mTurns mTF mTT mTW mBalloons mRoom mPigeons mLetters mWeight mPriority mtx undo ms sv := h
  obtain ⟨G, L9, mu, q, hG, hc, hm, hs, hp, ht, he, hh, hsl⟩ := id hR
  obtain ⟨P, hn, hj9, hb, hl, ha, hf, hi⟩ := id hs
  have hjc := hj9.1
  subst hjc
  unfold fop_eventNumber oM_eventNumber oM_thrown f_X9_thrown f_X9_eventNumber
  rw [e1, z_gIx (i := j + 1) (n := L) (by omega) (by omega)]
  dsimp only
  generalize xs (nI (j + 1)).toNatClampNeg = x
  have hme := m_event (N := N) (at_ := 181) hj9 (by omega) x
  rw [show (181 : Int32) = nI 181 from rfl, hme, z_hasJ, z_ob1]
  have hR1 := RelX_mono hR
  by_cases hx : x < 0 ∨ nI (P 0 4) ≤ x
  · rw [if_pos hx, if_pos hx, z_ob2, z_ob2, z_ob2, z_ob1, z_ob2, if_pos rfl, if_pos rfl]
    exact hK _ _ hR1
  · have hjb := hj9.2.2.1
    have hxx := z_j (by omega) hx
    obtain ⟨k, hk1, rfl⟩ := hxx
    rw [if_neg hx, if_neg hx, z_ob2, z_ob2, z_ob2, z_ob1, z_ob2, if_neg (show ¬ (1 : Int32) = 0 by decide), z_gIx (by omega) (by omega), if_pos rfl, z_cl (by omega), if_pos (show lg_cmp (jn k).toInt64 (mNow (181 + k)).toInt64 = 0 by rw [(hj9.2.2.2 k hk1).2.1]; exact lgc_self _)]
    exact hK _ _ hR1
theorem p_eventDay {N T L j : Nat} {xs : Nat → Int32} {K : SC → SM → Option Unit} {sC : SC} {sM : SM} (hN : 3000 < N) (hN2 : N < 2 ^ 31) (hT : T ≤ 1000) (hL : L ≤ 3072) (hj : j + 6 ≤ L) (h : Rel T sC sM) (hK : ∀ sC' sM', Rel (T + 1) sC' sM' → K sC' sM' = some ()) : fop_eventDay N xs L K (nI j) sC sM = some () := by
  have e1 : nI j + 1 = nI (j + 1) := z_add j 1
  obtain ⟨⟨tl, ep, und, nw, tx, rda, rdb, rdc, rdd, rde, rdf, rdg, rdh, rdi, now, then_, planned, pw, pr, gain, best, chosen, lightest, sf⟩, ⟨day, wind, loftN, lost, lc, ds, jc, jk, jn, jd, bst, br, cg, lt, an, ho, du, la⟩, ⟨regions, balloons, letters, loft, start, seed, count, turnCount, turnFrom, turnTo, follow, land, aimCount, aim, risk, distance, comeback, capacity, pigeons, weight, priority⟩, ⟨qregions, qballoons, qletters, qloft, qstart, qseed, qcount, qturnCount, qturnFrom, qturnTo, qfollow, qland, qaimCount, qaim, qrisk, qdistance, qcomeback, qcapacity, qpigeons, qweight, qpriority⟩, hist, slots⟩ := sC
  obtain ⟨th, mLoft, mStart, mSeed, dl, dst, dd, ml, ts, mst, mnx, mtk, mv, me, ea, mnu, mund, mNow, mRegions, mRisk, mDistance, mBack, mWinds, mNamed, mNR, mNW, mTurns, mTF, mTT, mTW, mBalloons, mRoom, mPigeons, mLetters, mWeight, mPriority, mtx, chance, chanceNext, total, worth, mBest, undo, ms, sv⟩ := sM
  have hR : RelX T tl ep und nw tx planned pw pr best chosen sf day wind loftN lost lc ds jc jk jn jd bst br cg lt an ho du la regions balloons letters loft start seed count turnCount turnFrom turnTo follow land aimCount aim risk distance comeback capacity pigeons weight priority hist slots mLoft mStart mSeed ml ea mund mNow mRegions mRisk mDistance mBack mWinds mNamed mNR mNW mTurns mTF mTT mTW mBalloons mRoom mPigeons mLetters mWeight mPriority mtx undo ms sv := h
  obtain ⟨G, L9, mu, q, hG, hc, hm, hs, hp, ht, he, hh, hsl⟩ := id hR
  obtain ⟨P, hn, hj9, hb, hl, ha, hf, hi⟩ := id hs
  have hjc := hj9.1
  subst hjc
  unfold fop_eventDay oM_eventDay oM_thrown f_X9_thrown f_X9_eventDay
  rw [e1, z_gIx (i := j + 1) (n := L) (by omega) (by omega)]
  dsimp only
  generalize xs (nI (j + 1)).toNatClampNeg = x
  have hme := m_event (N := N) (at_ := 197) hj9 (by omega) x
  rw [show (197 : Int32) = nI 197 from rfl, hme, z_hasJ, z_ob1]
  have hR1 := RelX_mono hR
  by_cases hx : x < 0 ∨ nI (P 0 4) ≤ x
  · rw [if_pos hx, if_pos hx, z_ob2, z_ob2, z_ob2, z_ob1, z_ob2, if_pos rfl, if_pos rfl]
    exact hK _ _ hR1
  · have hjb := hj9.2.2.1
    have hxx := z_j (by omega) hx
    obtain ⟨k, hk1, rfl⟩ := hxx
    rw [if_neg hx, if_neg hx, z_ob2, z_ob2, z_ob2, z_ob1, z_ob2, if_neg (show ¬ (1 : Int32) = 0 by decide), z_gIx (by omega) (by omega), if_pos rfl, z_cl (by omega), if_pos (show lg_cmp (jd k).toInt64 (mNow (197 + k)).toInt64 = 0 by rw [(hj9.2.2.2 k hk1).2.2]; exact lgc_self _)]
    exact hK _ _ hR1
theorem p_undo {N T L j : Nat} {xs : Nat → Int32} {K : SC → SM → Option Unit} {sC : SC} {sM : SM} (hN : 3000 < N) (hN2 : N < 2 ^ 31) (hT : T ≤ 1000) (hL : L ≤ 3072) (hj : j + 6 ≤ L) (h : Rel T sC sM) (hK : ∀ sC' sM', Rel (T + 1) sC' sM' → K sC' sM' = some ()) : fop_undo N xs L K (nI j) sC sM = some () := by
  obtain ⟨r, sC', sM', p1, p2, p3⟩ := r_undo (N := N) hN hN2 hT h
  unfold fop_undo
  rw [p1, z_ob2, p2, z_ob2, if_pos rfl]
  exact hK _ _ (p3.mono (Nat.le_succ T))
theorem p_undoDepth {N T L j : Nat} {xs : Nat → Int32} {K : SC → SM → Option Unit} {sC : SC} {sM : SM} (hN : 3000 < N) (hN2 : N < 2 ^ 31) (hT : T ≤ 1000) (hL : L ≤ 3072) (hj : j + 6 ≤ L) (h : Rel T sC sM) (hK : ∀ sC' sM', Rel (T + 1) sC' sM' → K sC' sM' = some ()) : fop_undoDepth N xs L K (nI j) sC sM = some () := by
  obtain ⟨r, sC', sM', p1, p2, p3⟩ := r_undoDepth (N := N) hN hN2 hT h
  unfold fop_undoDepth
  rw [p1, z_ob2, p2, z_ob2, if_pos rfl]
  exact hK _ _ (p3.mono (Nat.le_succ T))
theorem p_saveSnapshot {N T L j : Nat} {xs : Nat → Int32} {K : SC → SM → Option Unit} {sC : SC} {sM : SM} (hN : 3000 < N) (hN2 : N < 2 ^ 31) (hT : T ≤ 1000) (hL : L ≤ 3072) (hj : j + 6 ≤ L) (h : Rel T sC sM) (hK : ∀ sC' sM', Rel (T + 1) sC' sM' → K sC' sM' = some ()) : fop_saveSnapshot N xs L K (nI j) sC sM = some () := by
  have e1 : nI j + 1 = nI (j + 1) := z_add j 1
  obtain ⟨r, sC', sM', p1, p2, p3⟩ := r_saveSnapshot (N := N) hN hN2 hT h (xs (nI (j + 1)).toNatClampNeg)
  unfold fop_saveSnapshot
  rw [e1, z_gIx (i := j + 1) (n := L) (by omega) (by omega), p1, z_ob2, p2, z_ob2, if_pos rfl]
  exact hK _ _ (p3.mono (Nat.le_succ T))
theorem p_restoreSnapshot {N T L j : Nat} {xs : Nat → Int32} {K : SC → SM → Option Unit} {sC : SC} {sM : SM} (hN : 3000 < N) (hN2 : N < 2 ^ 31) (hT : T ≤ 1000) (hL : L ≤ 3072) (hj : j + 6 ≤ L) (h : Rel T sC sM) (hK : ∀ sC' sM', Rel (T + 1) sC' sM' → K sC' sM' = some ()) : fop_restoreSnapshot N xs L K (nI j) sC sM = some () := by
  have e1 : nI j + 1 = nI (j + 1) := z_add j 1
  obtain ⟨r, sC', sM', p1, p2, p3⟩ := r_restoreSnapshot (N := N) hN hN2 hT h (xs (nI (j + 1)).toNatClampNeg)
  unfold fop_restoreSnapshot
  rw [e1, z_gIx (i := j + 1) (n := L) (by omega) (by omega), p1, z_ob2, p2, z_ob2, if_pos rfl]
  exact hK _ _ (p3.mono (Nat.le_succ T))
