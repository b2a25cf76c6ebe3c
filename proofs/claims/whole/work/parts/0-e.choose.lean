variable {G : Nat → Nat → Nat} {regions balloons letters loft start seed count turnCount : Int32} {risk distance comeback capacity pigeons weight priority turnFrom turnTo follow land aimCount aim : Nat → Int32} {mLoft mStart mSeed : Int32} {mRegions mRisk mDistance mBack mWinds mNamed mNR mNW mTurns mTF mTT mTW mBalloons mRoom mPigeons mLetters mWeight mPriority : Nat → Int32}
theorem tP_uni {nT i : Nat} {tf tt tw : Nat → Nat} (hi : i < nT) (hu : ∀ k j, k < nT → j < k → ¬ (tf k = tf j ∧ tt k = tt j)) : tP nT tf tt tw (tf i) (tt i) = tw i := by
  unfold tP
  have := sm_delta i tw nT
  rw [if_pos hi] at this
  refine Eq.trans (sm_congr (fun k hk => ?_)) this
  by_cases e : k = i
  · subst e; rw [if_pos ⟨rfl, rfl⟩, if_pos rfl]
  · rw [if_neg e, if_neg]
    intro q
    rcases Nat.lt_or_ge k i with h | h
    · exact hu i k hi h ⟨q.1.symm, q.2.symm⟩
    · exact hu k i hk (by omega) q
theorem lP_uni {na nr nw : Nat → Nat} {w i : Nat} (hi : i < na w) (hu : ∀ k j, k < na w → j < k → nr (8 * w + k) ≠ nr (8 * w + j)) : lP na nr nw w (nr (8 * w + i)) = nw (8 * w + i) := by
  unfold lP
  have := sm_delta i (fun k => nw (8 * w + k)) (na w)
  rw [if_pos hi] at this
  refine Eq.trans (sm_congr (fun k hk => ?_)) this
  by_cases e : k = i
  · subst e; rw [if_pos rfl, if_pos rfl]
  · rw [if_neg e, if_neg]
    intro q
    rcases Nat.lt_or_ge k i with h | h
    · exact hu i k hi h q.symm
    · exact hu k i hk (by omega) q
theorem e_chooseW {N w : Nat} (hG : WF G) (hc : RGc G regions balloons letters loft start seed count turnCount risk distance comeback capacity pigeons weight priority turnFrom turnTo follow land aimCount aim) (hm : RGm G mLoft mStart mSeed mRegions mRisk mDistance mBack mWinds mNamed mNR mNW mTurns mTF mTT mTW mBalloons mRoom mPigeons mLetters mWeight mPriority) (hw : w < G 0 1) : ∀ (m i g : Nat), i ≤ G 0 2 → G 0 2 - i + 1 < m → g < 10 → ∃ v y g', v < G 0 1 ∧ f_X7_chooseWind_5 N count turnCount turnFrom turnTo follow (nI w) m (nI i) (nI g) = some (nI v) ∧ f_X9_nextDay_45 N mTurns mTF mTW mTT (nI w) m (nI i) (nI w) (nI g) = some (y, nI v, g') := by
  obtain ⟨⟨g0, g1, g2, g3, g4, g5, g6, g7⟩, gr, ⟨gna, gn1, gn2, gn3⟩, ⟨gt1, gt2, gt3⟩, gb, gl⟩ := hG
  obtain ⟨⟨rfl, rfl, rfl, rfl, rfl, rfl, rfl, rfl⟩, cr, cb, cl, ct, cf, cla, cac, cai⟩ := hc
  obtain ⟨⟨m0, m1, m2, m3, m4, rfl, rfl, rfl⟩, mr, mb, ml, mt, mna, mnr⟩ := hm
  intro m
  induction m with
  | zero => intro i g h1 h2; omega
  | succ m ih =>
    intro i g h1 h2 hg
    rw [f_X7_chooseWind_5.eq_2, f_X9_nextDay_45.eq_2, z_gI0 (by omega) (by omega), z_c0, m2]
    have e1 : nI i + 1 = nI (i + 1) := nI_1 i
    by_cases h : i < G 0 2
    · obtain ⟨c1, c2⟩ := ct i h
      obtain ⟨d1, d2, d3⟩ := mt i h
      obtain ⟨t1, t2, t3, t4, t5⟩ := gt1 i h
      have e30 : (30 ≤ nI i) = (30 ≤ i) := z_le (a := 30) (by omega) (by omega)
      have f1 : f_X7_followTenths N (nI (G 0 1)) follow (nI (G 7 i)) (nI (G 8 i)) = some (nI (G 9 i)) := by
        rw [s_follow g1 cf t1 (by omega), if_pos t2]
        unfold tF
        rw [if_neg t3, Nat.zero_add, tP_uni h gt2]
      simp (disch := omega) only [e1, e30, z_le, z_neg, z_eq, z_gIx, z_cl, c1, c2, d1, d2, d3, if_neg, if_false]
      by_cases ew : G 7 i = w
      · subst ew
        rw [if_pos rfl, if_pos rfl, f1, z_ob1]
        simp (disch := omega) only [z_le]
        by_cases hle : G 9 i ≤ g
        · rw [if_pos hle, if_pos hle, z_sub hle]
          exact ih (i + 1) (g - G 9 i) (by omega) (by omega) (by omega)
        · rw [if_neg hle, if_neg hle]
          obtain ⟨m', rfl⟩ : ∃ m', m = m' + 1 := ⟨m - 1, by omega⟩
          rw [f_X9_nextDay_45.eq_2, z_gI0 (by omega) (by omega), z_c0, m2]
          have hneg : nI g - nI (G 9 i) < 0 := pk_sneg (by omega) (by omega)
          rw [if_pos hneg]
          refine ⟨G 8 i, nI (i + 1), nI g - nI (G 9 i), t2, rfl, ?_⟩
          split <;> rfl
      · rw [if_neg ew, if_neg ew]
        exact ih (i + 1) g (by omega) (by omega) hg
    · have : i = G 0 2 := by omega
      subst this
      refine ⟨w, nI (G 0 2), nI g, hw, ?_, ?_⟩
      · simp (disch := omega) only [z_le, if_pos]
      · simp (disch := omega) only [z_le, if_pos]
/-- the region that is drawn -/
theorem e_chooseR {N w : Nat} {now2 : Nat → Int32} (hG : WF G) (hc : RGc G regions balloons letters loft start seed count turnCount risk distance comeback capacity pigeons weight priority turnFrom turnTo follow land aimCount aim) (hm : RGm G mLoft mStart mSeed mRegions mRisk mDistance mBack mWinds mNamed mNR mNW mTurns mTF mTT mTW mBalloons mRoom mPigeons mLetters mWeight mPriority) (hw : w < G 0 1) : ∀ (m i g : Nat), i ≤ G 4 w → G 4 w - i < m → g < 10 → ∃ r, (r = -2 ∨ ∃ k, k < G 0 0 ∧ r = nI k) ∧ f_X7_chooseRegion_16 N count aimCount aim land (nI w) m (nI i) (nI g) = some r ∧ f_X9_regionDrawn_14 N mNamed mNW mNR now2 (nI w) m (nI i) (nI g) = some (r, now2) := by
  obtain ⟨⟨g0, g1, g2, g3, g4, g5, g6, g7⟩, gr, ⟨gna, gn1, gn2, gn3⟩, ⟨gt1, gt2, gt3⟩, gb, gl⟩ := hG
  obtain ⟨⟨rfl, rfl, rfl, rfl, rfl, rfl, rfl, rfl⟩, cr, cb, cl, ct, cf, cla, cac, cai⟩ := hc
  obtain ⟨⟨m0, m1, m2, m3, m4, rfl, rfl, rfl⟩, mr, mb, ml, mt, mna, mnr⟩ := hm
  have na8 := gna w hw
  intro m
  induction m with
  | zero => intro i g h1 h2; omega
  | succ m ih =>
    intro i g h1 h2 hg
    rw [f_X7_chooseRegion_16.eq_2, f_X9_regionDrawn_14.eq_2, z_gIx (by omega) (by omega), z_gIx (by omega) (by omega), z_cl (by omega), cac w hw, mna w hw]
    have e1 : nI i + 1 = nI (i + 1) := nI_1 i
    by_cases h : i < G 4 w
    · have c1 := cai w i hw h
      obtain ⟨d1, d2⟩ := mnr w i hw h
      obtain ⟨t1, t2, t3⟩ := gn1 w i hw h
      have e8 : (8 ≤ nI i) = (8 ≤ i) := z_le (a := 8) (by omega) (by omega)
      have f1 : f_X7_landTenths N (nI (G 0 1)) land (nI w) (nI (G 5 (8 * w + i))) = some (nI (G 6 (8 * w + i))) := by
        rw [s_land g1 cla hw (by omega)]
        unfold lT
        rw [if_neg (by omega), lP_uni h (fun k j hk hj => gn2 w k j hw hk hj)]
      have a1 : nI w * 8 + nI i = nI (w * 8 + i) := by rw [show (8 : Int32) = nI 8 from rfl, z_mul, z_add]
      have a2 : (8 : Int32) * nI w + nI i = nI (8 * w + i) := by rw [show (8 : Int32) = nI 8 from rfl, z_mul, z_add]
      simp (disch := omega) only [e1, e8, a1, a2, z_le, z_gIx, z_cl, c1, d1, d2, f1, z_ob1, if_neg]
      by_cases hle : G 6 (8 * w + i) ≤ g
      · rw [if_pos hle, if_pos hle, z_sub hle]
        exact ih (i + 1) (g - G 6 (8 * w + i)) (by omega) (by omega) (by omega)
      · rw [if_neg hle, if_neg hle]
        exact ⟨nI (G 5 (8 * w + i)), Or.inr ⟨_, t1, rfl⟩, rfl, rfl⟩
    · have : i = G 4 w := by omega
      subst this
      refine ⟨-2, Or.inl rfl, ?_, ?_⟩
      · simp (disch := omega) only [z_le, if_pos]
      · simp (disch := omega) only [z_le, if_pos]
theorem m_drawn {N w x : Nat} {now : Nat → Int32} {r : Int32} (hx : x < 2 ^ 31) (h1 : now 1 = nI w) (h2 : now 2 = nI x) (h : f_X9_regionDrawn_14 N mNamed mNW mNR (upd now 2 (nI (nx x))) (nI w) N 0 (nI (dr x)) = some (r, upd now 2 (nI (nx x)))) : f_X9_regionDrawn N now mNamed mNW mNR = some (r, upd now 2 (nI (nx x))) := by
  unfold f_X9_regionDrawn
  rw [show (1 : Int32) = nI 1 from rfl, z_gIx (by omega) (by omega), m_draw hx h2, z_ob2, z_cl (by omega), h1, h]
theorem e_chooseR2 {N w x : Nat} {now : Nat → Int32} (hN : 100 < N) (hG : WF G) (hc : RGc G regions balloons letters loft start seed count turnCount risk distance comeback capacity pigeons weight priority turnFrom turnTo follow land aimCount aim) (hm : RGm G mLoft mStart mSeed mRegions mRisk mDistance mBack mWinds mNamed mNR mNW mTurns mTF mTT mTW mBalloons mRoom mPigeons mLetters mWeight mPriority) (hw : w < G 0 1) (hx : x < 2 ^ 31) (h1 : now 1 = nI w) (h2 : now 2 = nI x) : ∃ r, (r = -2 ∨ ∃ k, k < G 0 0 ∧ r = nI k) ∧ f_X7_chooseRegion N count aimCount aim land (nI w) (nI (dr x)) = some r ∧ f_X9_regionDrawn N now mNamed mNW mNR = some (r, upd now 2 (nI (nx x))) := by
  obtain ⟨r, q1, q2, q3⟩ := e_chooseR (N := N) (now2 := upd now 2 (nI (nx x))) hG hc hm hw N 0 (dr x) (by omega) (by have := hG.2.2.1.1 w hw; omega) (dr_lt x)
  refine ⟨r, q1, ?_, m_drawn hx h1 h2 q3⟩
  have hcc : count = nI (G 0 1) := hc.1.2.2.2.2.2.2.1
  have g1 : G 0 1 ≤ 6 := hG.1.2.1
  unfold f_X7_chooseRegion
  have e : f_X7_has N count (nI w) = some 1 := by rw [hcc, z_has7, if_neg (z_nj hw (by omega))]
  rw [e, z_ob1, if_neg (by decide)]
  exact q2
