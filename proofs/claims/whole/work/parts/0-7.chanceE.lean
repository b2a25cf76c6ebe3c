variable {G : Nat → Nat → Nat} {regions balloons letters loft start seed count turnCount : Int32} {risk distance comeback capacity pigeons weight priority turnFrom turnTo follow land aimCount aim : Nat → Int32} {mLoft mStart mSeed : Int32} {mRegions mRisk mDistance mBack mWinds mNamed mNR mNW mTurns mTF mTT mTW mBalloons mRoom mPigeons mLetters mWeight mPriority : Nat → Int32}
variable {wind : Int32} {mNow : Nat → Int32} {now then_ chance chanceNext : Nat → Int64} {wd : Nat}
theorem z_j {n : Nat} {x : Int32} (hn : n < 2 ^ 31) (h : ¬ (x < 0 ∨ nI n ≤ x)) : ∃ j : Nat, j < n ∧ x = nI j := by
  rcases pk_ix x hn with h1 | h1 | h1
  · exact absurd (Or.inl h1) h
  · exact absurd (Or.inr h1) h
  · exact h1
theorem z_nj {n j : Nat} (h : j < n) (hn : n < 2 ^ 31) : ¬ (nI j < 0 ∨ nI n ≤ nI j) := by
  intro q
  rcases q with q | q
  · exact nI_pos (by omega) q
  · rw [z_le (by omega) (by omega)] at q; omega
theorem z_gI0 {γ : Type} {n : Nat} {k : Option γ} (h : 0 < n) (hn : n < 2 ^ 31) : gIx 0 n k = k := z_gIx (i := 0) h hn
theorem z_c0 : (0 : Int32).toNatClampNeg = 0 := rfl
theorem z_sh {sh : Nat} (h : sh < 6) : shI sh = nI sh := if_pos h
theorem z_sh2 : shI 6 = -2 := rfl
theorem z_iw {N : Nat} (hm : RGm G mLoft mStart mSeed mRegions mRisk mDistance mBack mWinds mNamed mNR mNW mTurns mTF mTT mTW mBalloons mRoom mPigeons mLetters mWeight mPriority) (hG : WF G) (x : Int32) : f_X9_isWind N mWinds x = some (if x < 0 ∨ nI (G 0 1) ≤ x then 0 else 1) := by
  obtain ⟨⟨g0, g1, g2, g3, g4, g5, g6, g7⟩, gr, ⟨gna, gn1, gn2, gn3⟩, ⟨gt1, gt2, gt3⟩, gb, gl⟩ := hG
  obtain ⟨⟨m0, m1, m2, m3, m4, rfl, rfl, rfl⟩, mr, mb, ml, mt, mna, mnr⟩ := hm
  unfold f_X9_isWind
  rw [z_gI0 (by omega) (by omega), z_c0, m1, z_within (by omega), z_ob1]
/-- the model's forecast -/
theorem e_goes {N sh d : Nat} (hN : 100 < N) (hG : WF G) (hm : RGm G mLoft mStart mSeed mRegions mRisk mDistance mBack mWinds mNamed mNR mNW mTurns mTF mTT mTW mBalloons mRoom mPigeons mLetters mWeight mPriority) (hd : d < 100) (hw : wd < G 0 1) (hw2 : mNow 1 = nI wd) (chance chanceNext : Nat → Int64) : ∃ a' b', f_X9_goesOn N mNow chance mTurns mTF mTW chanceNext mTT (nI d) (shI sh) = some (a', b') ∧ ∀ k, k < 6 → a' k = lN (chD (G 0 1) (tF (G 0 2) (G 7) (G 8) (G 9)) wd sh d k) := by
  obtain ⟨⟨g0, g1, g2, g3, g4, g5, g6, g7⟩, gr, ⟨gna, gn1, gn2, gn3⟩, ⟨gt1, gt2, gt3⟩, gb, gl⟩ := hG
  obtain ⟨⟨m0, m1, m2, m3, m4, rfl, rfl, rfl⟩, mr, mb, ml, mt, mna, mnr⟩ := hm
  exact m_goes hN (by omega) (by omega) hw hd hw2 m2 (fun k hk => ⟨(mt k hk).1, (gt1 k hk).1⟩) (fun k hk => ⟨(mt k hk).2.1, (gt1 k hk).2.1⟩) (fun k hk => ⟨(mt k hk).2.2, by have := (gt1 k hk).2.2.2.2; omega⟩) (fun k hk => (gt1 k hk).2.2.1) (fun w _ => gt3 w) chance chanceNext
/-- the class's forecast -/
theorem e_look {N sh d : Nat} (hN : 100 < N) (hG : WF G) (hc : RGc G regions balloons letters loft start seed count turnCount risk distance comeback capacity pigeons weight priority turnFrom turnTo follow land aimCount aim) (hd : d < 100) (hw : wd < G 0 1) (now then_ : Nat → Int64) : ∃ a' b', f_X0_lookAhead N now then_ count follow (nI wd) (nI d) (shI sh) = some (a', b') ∧ ∀ k, k < 6 → a' k = lN (chD (G 0 1) (tF (G 0 2) (G 7) (G 8) (G 9)) wd sh d k) := by
  obtain ⟨⟨g0, g1, g2, g3, g4, g5, g6, g7⟩, gr, ⟨gna, gn1, gn2, gn3⟩, ⟨gt1, gt2, gt3⟩, gb, gl⟩ := hG
  obtain ⟨⟨rfl, rfl, rfl, rfl, rfl, rfl, rfl, rfl⟩, cr, cb, cl, ct, cf, cla, cac, cai⟩ := hc
  exact s_look hN (by omega) (by omega) hd cf (fun w v _ _ => by have := tF_le (tt := G 8) (v := v) (gt3 w); omega)
theorem e_windChance {N : Nat} (hN : 100 < N) (hG : WF G) (hc : RGc G regions balloons letters loft start seed count turnCount risk distance comeback capacity pigeons weight priority turnFrom turnTo follow land aimCount aim) (hm : RGm G mLoft mStart mSeed mRegions mRisk mDistance mBack mWinds mNamed mNR mNW mTurns mTF mTT mTW mBalloons mRoom mPigeons mLetters mWeight mPriority) (hw : 0 < G 0 1 → wind = nI wd ∧ mNow 1 = nI wd ∧ wd < G 0 1) (x1 x2 : Int32) : ∃ r a b a' b', f_X8_windChance N count wind now then_ follow x1 x2 = some (r, a, b) ∧ f_X9_windChance N mWinds mNow chance mTurns mTF mTW chanceNext mTT x1 x2 = some (r, 0, a', b') := by
  unfold f_X8_windChance f_X9_windChance
  rw [z_iw hm hG, z_ob1]
  have hcc : count = nI (G 0 1) := hc.1.2.2.2.2.2.2.1
  have g1 : G 0 1 ≤ 6 := hG.1.2.1
  rw [hcc, z_has7, z_ob1, z_fore, z_ob1, z_days, z_ob1]
  simp only [z_01]
  by_cases h1 : x1 < 0 ∨ nI (G 0 1) ≤ x1
  · exact ⟨_, _, _, _, _, if_pos h1, if_pos h1⟩
  by_cases h2 : x2 < 0 ∨ nI 9 ≤ x2
  · exact ⟨_, _, _, _, _, (if_neg h1).trans (if_pos h2), (if_neg h1).trans (if_pos h2)⟩
  obtain ⟨w, hw1, rfl⟩ := z_j (by omega) h1
  obtain ⟨d, hd1, rfl⟩ := z_j (by omega) h2
  obtain ⟨rfl, w2, w3⟩ := hw (by omega)
  obtain ⟨a, b, h3, h4⟩ := e_look (sh := 6) (d := d) hN hG hc (by omega) w3 now then_
  obtain ⟨a', b', h5, h6⟩ := e_goes (sh := 6) (d := d) hN hG hm (by omega) w3 w2 chance chanceNext
  rw [z_sh2] at h3 h5
  refine ⟨lN (chD (G 0 1) (tF (G 0 2) (G 7) (G 8) (G 9)) wd 6 d w), a, b, a', b', (if_neg h1).trans ((if_neg h2).trans ?_), (if_neg h1).trans ((if_neg h2).trans ?_)⟩
  · rw [← hcc, h3, z_ob2, s_of (by omega), z_ob1, h4 w (by omega)]
  · rw [h5, z_ob2, z_gIx (by omega) (by omega), z_cl (by omega), h6 w (by omega)]
theorem m_avoid_35 {N : Nat} {ch : Nat → Nat} {cc : Nat → Int64} (hN : 100 < N) (hc : ∀ k, k < 6 → cc k = lN (ch k)) : f_X9_avoidChance_35 N cc N 0 0 = some (nI 6, lN (sm 6 ch)) := by
  have e : ∀ n i v, f_X9_avoidChance_35 N cc n i v = f_X0_sum_4 N cc n i v := by
    intro n
    induction n with
    | zero => intro i v; rfl
    | succ n ih => intro i v; rw [f_X9_avoidChance_35.eq_2, f_X0_sum_4.eq_2, ih]
  rw [e]
  exact s_sum_4 hc N 0 0 (by omega) (by omega) rfl
theorem e_avoidChance {N : Nat} (hN : 100 < N) (hG : WF G) (hc : RGc G regions balloons letters loft start seed count turnCount risk distance comeback capacity pigeons weight priority turnFrom turnTo follow land aimCount aim) (hm : RGm G mLoft mStart mSeed mRegions mRisk mDistance mBack mWinds mNamed mNR mNW mTurns mTF mTT mTW mBalloons mRoom mPigeons mLetters mWeight mPriority) (hw : 0 < G 0 1 → wind = nI wd ∧ mNow 1 = nI wd ∧ wd < G 0 1) (x1 x2 : Int32) : ∃ r a b a' b', f_X8_avoidChance N count wind now then_ follow x1 x2 = some (r, a, b) ∧ f_X9_avoidChance N mWinds mNow chance mTurns mTF mTW chanceNext mTT x1 x2 = some (r, 0, a', b') := by
  unfold f_X8_avoidChance f_X9_avoidChance
  rw [z_iw hm hG, z_ob1]
  have hcc : count = nI (G 0 1) := hc.1.2.2.2.2.2.2.1
  have g1 : G 0 1 ≤ 6 := hG.1.2.1
  rw [hcc, z_has7, z_ob1, z_fore, z_ob1, z_days, z_ob1]
  simp only [z_01]
  by_cases h1 : x1 < 0 ∨ nI (G 0 1) ≤ x1
  · exact ⟨_, _, _, _, _, if_pos h1, if_pos h1⟩
  by_cases h2 : x2 < 0 ∨ nI 9 ≤ x2
  · exact ⟨_, _, _, _, _, (if_neg h1).trans (if_pos h2), (if_neg h1).trans (if_pos h2)⟩
  obtain ⟨w, hw1, rfl⟩ := z_j (by omega) h1
  obtain ⟨d, hd1, rfl⟩ := z_j (by omega) h2
  obtain ⟨rfl, w2, w3⟩ := hw (by omega)
  obtain ⟨a, b, h3, h4⟩ := e_look (sh := w) (d := d) hN hG hc (by omega) w3 now then_
  obtain ⟨a', b', h5, h6⟩ := e_goes (sh := w) (d := d) hN hG hm (by omega) w3 w2 chance chanceNext
  rw [z_sh (by omega)] at h3 h5
  refine ⟨lN (sm 6 (chD (G 0 1) (tF (G 0 2) (G 7) (G 8) (G 9)) wd w d)), a, b, a', b', (if_neg h1).trans ((if_neg h2).trans ?_), (if_neg h1).trans ((if_neg h2).trans ?_)⟩
  · rw [← hcc, h3, z_ob2, s_sum hN h4, z_ob1]
  · rw [h5, z_ob2, m_avoid_35 hN h6, z_ob2]
theorem z_can {N n : Nat} (hn : n < 2 ^ 31) (x : Int32) : f_X8_canForecast N (nI n) x = some (if (x < 0 ∨ nI 9 ≤ x) ∨ n = 0 then 0 else 1) := by
  unfold f_X8_canForecast
  rw [z_fore, z_ob1]
  simp only [z_01]
  by_cases h : x < 0 ∨ nI 9 ≤ x
  · rw [if_pos h, if_pos (Or.inl h)]
  · rw [if_neg h]
    have e : (nI n ≤ 0) = (n ≤ 0) := z_le (b := 0) hn (by omega)
    simp only [e]
    by_cases h2 : n = 0
    · rw [if_pos (by omega), if_pos (Or.inr h2)]
    · rw [if_neg (by omega), if_neg (by intro q; rcases q with q | q; exact h q; exact h2 q)]
/-- the tables of the class are in range -/
theorem e_land {N : Nat} (hG : WF G) (hc : RGc G regions balloons letters loft start seed count turnCount risk distance comeback capacity pigeons weight priority turnFrom turnTo follow land aimCount aim) : (∀ w r, w < G 0 1 → r < 9 → land (w * 9 + r) = nI (lT (G 4) (G 5) (G 6) w r)) ∧ (∀ w r, w < G 0 1 → r < 9 → lT (G 4) (G 5) (G 6) w r < 2 ^ 31) := by
  obtain ⟨⟨g0, g1, g2, g3, g4, g5, g6, g7⟩, gr, ⟨gna, gn1, gn2, gn3⟩, ⟨gt1, gt2, gt3⟩, gb, gl⟩ := hG
  obtain ⟨⟨rfl, rfl, rfl, rfl, rfl, rfl, rfl, rfl⟩, cr, cb, cl, ct, cf, cla, cac, cai⟩ := hc
  exact ⟨cla, fun w r hw _ => by have := lT_le (nr := G 5) (r := r) (gn3 w hw); omega⟩
theorem e_wby {N : Nat} (hN : 100 < N) (hG : WF G) (hm : RGm G mLoft mStart mSeed mRegions mRisk mDistance mBack mWinds mNamed mNR mNW mTurns mTF mTT mTW mBalloons mRoom mPigeons mLetters mWeight mPriority) {w r : Nat} (hw : w < G 0 1) (hr : r < 8) : f_X9_weightBy N mNamed mNW mNR (nI w) (nI r) = some (nI (lT (G 4) (G 5) (G 6) w r)) ∧ lT (G 4) (G 5) (G 6) w r < 2 ^ 31 := by
  obtain ⟨⟨g0, g1, g2, g3, g4, g5, g6, g7⟩, gr, ⟨gna, gn1, gn2, gn3⟩, ⟨gt1, gt2, gt3⟩, gb, gl⟩ := hG
  obtain ⟨⟨m0, m1, m2, m3, m4, rfl, rfl, rfl⟩, mr, mb, ml, mt, mna, mnr⟩ := hm
  refine ⟨m_weightBy hN hw (by omega) hr (fun w hw => ⟨mna w hw, gna w hw⟩) (fun w k hw hk => ⟨(mnr w k hw hk).1, by have := (gn1 w k hw hk).1; omega⟩) (fun w k hw hk => (mnr w k hw hk).2) gn2, ?_⟩
  have := lT_le (nr := G 5) (r := r) (gn3 w hw); omega
theorem e_wsea {N : Nat} (hN : 100 < N) (hG : WF G) (hm : RGm G mLoft mStart mSeed mRegions mRisk mDistance mBack mWinds mNamed mNR mNW mTurns mTF mTT mTW mBalloons mRoom mPigeons mLetters mWeight mPriority) {w : Nat} (hw : w < G 0 1) : f_X9_weightBy N mNamed mNW mNR (nI w) (-2) = some (nI (lT (G 4) (G 5) (G 6) w 8)) ∧ lT (G 4) (G 5) (G 6) w 8 < 2 ^ 31 := by
  obtain ⟨⟨g0, g1, g2, g3, g4, g5, g6, g7⟩, gr, ⟨gna, gn1, gn2, gn3⟩, ⟨gt1, gt2, gt3⟩, gb, gl⟩ := hG
  obtain ⟨⟨m0, m1, m2, m3, m4, rfl, rfl, rfl⟩, mr, mb, ml, mt, mna, mnr⟩ := hm
  refine ⟨m_weightSea hN hw (by omega) (fun w hw => ⟨mna w hw, gna w hw⟩) (fun w k hw hk => ⟨(mnr w k hw hk).1, by have := (gn1 w k hw hk).1; omega⟩) (fun w k hw hk => (mnr w k hw hk).2) gn3, ?_⟩
  have := lT_le (nr := G 5) (r := 8) (gn3 w hw); omega
theorem e_landing_j {N r : Nat} {x1 xc : Int32} (hN : 100 < N) (hG : WF G) (hc : RGc G regions balloons letters loft start seed count turnCount risk distance comeback capacity pigeons weight priority turnFrom turnTo follow land aimCount aim) (hm : RGm G mLoft mStart mSeed mRegions mRisk mDistance mBack mWinds mNamed mNR mNW mTurns mTF mTT mTW mBalloons mRoom mPigeons mLetters mWeight mPriority) (hw : 0 < G 0 1 → wind = nI wd ∧ mNow 1 = nI wd ∧ wd < G 0 1) (x2 : Int32) (hr : (x1 = -2 ∧ r = 8) ∨ (x1 = nI r ∧ r < 8)) : ∃ q a b a' b', f_X8_landingChance_j22 N count wind now then_ follow land x1 x2 1 = some (q, a, b) ∧ f_X9_landingChance_j27 N mWinds mNow chance mTurns mTF mTW chanceNext mTT mNamed mNW mNR x1 x2 0 = some (q, 0, a', b') := by
  unfold f_X8_landingChance_j22 f_X9_landingChance_j27
  have hcc : count = nI (G 0 1) := hc.1.2.2.2.2.2.2.1
  have g1 : G 0 1 ≤ 6 := hG.1.2.1
  have m1 : mWinds 0 = nI (G 0 1) := hm.1.2.1
  rw [if_neg (by decide), z_days, z_ob1, hcc, z_can (by omega), z_ob1]
  simp (disch := omega) only [z_01, z_gI0, z_c0, m1]
  by_cases h2 : x2 < 0 ∨ nI 9 ≤ x2
  · exact ⟨_, _, _, _, _, if_pos (Or.inl h2), if_pos h2⟩
  have e0 : (nI (G 0 1) = 0) = (G 0 1 = 0) := z_eq (b := 0) (by omega) (by omega)
  by_cases h0 : G 0 1 = 0
  · exact ⟨_, _, _, _, _, if_pos (Or.inr h0), (if_neg h2).trans (if_pos (by rw [e0]; exact h0))⟩
  obtain ⟨d, hd1, rfl⟩ := z_j (by omega) h2
  obtain ⟨rfl, w2, w3⟩ := hw (by omega)
  obtain ⟨a, b, h3, h4⟩ := e_look (sh := 6) (d := d) hN hG hc (by omega) w3 now then_
  obtain ⟨a', b', h5, h6⟩ := e_goes (sh := 6) (d := d) hN hG hm (by omega) w3 w2 chance chanceNext
  rw [z_sh2] at h3 h5
  have hl := e_land (N := N) hG hc
  refine ⟨lN (chL (G 0 1) (lT (G 4) (G 5) (G 6)) (chD (G 0 1) (tF (G 0 2) (G 7) (G 8) (G 9)) wd 6 d) r), a, b, a', b', (if_neg (by intro q; rcases q with q | q; exact h2 q; exact h0 q)).trans ?_, (if_neg h2).trans ((if_neg (by rw [e0]; exact h0)).trans ?_)⟩
  · rw [← hcc, h3, z_ob2, hcc]
    rcases hr with ⟨rfl, rfl⟩ | ⟨rfl, hr⟩
    · rw [if_pos rfl, show (8 : Int32) = nI 8 from rfl, s_coming hN (by omega) (by omega) hl.1 hl.2 h4, z_ob1]
    · rw [if_neg (by rw [z_m2 (by omega)]; exact id), s_coming hN (by omega) (by omega) hl.1 hl.2 h4, z_ob1]
  · rw [h5, z_ob2]
    have := m_landing_59 (N := N) (x1 := x1) (named := mNamed) (namedWeight := mNW) (namedRegion := mNR) (f := fun w => lT (G 4) (G 5) (G 6) w r) (by omega) m1 (by
      intro w hw
      rcases hr with ⟨rfl, rfl⟩ | ⟨rfl, hr⟩
      · exact e_wsea hN hG hm hw
      · exact e_wby hN hG hm hw hr) h6 N 0 0 (by omega) (by omega) rfl
    rw [show nI 0 = 0 from rfl, show lN 0 = 0 from rfl] at this
    rw [this, z_ob2]; rfl
theorem e_landingChance {N : Nat} (hN : 100 < N) (hG : WF G) (hc : RGc G regions balloons letters loft start seed count turnCount risk distance comeback capacity pigeons weight priority turnFrom turnTo follow land aimCount aim) (hm : RGm G mLoft mStart mSeed mRegions mRisk mDistance mBack mWinds mNamed mNR mNW mTurns mTF mTT mTW mBalloons mRoom mPigeons mLetters mWeight mPriority) (hw : 0 < G 0 1 → wind = nI wd ∧ mNow 1 = nI wd ∧ wd < G 0 1) (x1 x2 : Int32) : ∃ q a b a' b', f_X8_landingChance N regions count wind now then_ follow land x1 x2 = some (q, a, b) ∧ f_X9_landingChance N mRegions mWinds mNow chance mTurns mTF mTW chanceNext mTT mNamed mNW mNR x1 x2 = some (q, 0, a', b') := by
  unfold f_X8_landingChance f_X9_landingChance f_X8_landingChance_j17
  by_cases h1 : x1 = -2
  · rw [if_pos h1, if_pos h1]
    exact e_landing_j (xc := 0) (r := 8) hN hG hc hm hw x2 (Or.inl ⟨h1, rfl⟩)
  rw [if_neg h1, if_neg h1]
  have hrr : regions = nI (G 0 0) := hc.1.1
  have g0 : G 0 0 ≤ 8 := hG.1.1
  have m0 : mRegions 0 = nI (G 0 0) := hm.1.1
  simp (disch := omega) only [m0, z_gI0, z_c0]
  rw [hrr, z_hasR, z_ob1, z_within (by omega), z_ob1]
  simp only [z_01]
  by_cases h2 : x1 < 0 ∨ nI (G 0 0) ≤ x1
  · rw [if_pos h2, if_pos h2]
    refine ⟨-1, now, then_, chance, chanceNext, ?_, rfl⟩
    unfold f_X8_landingChance_j22
    rw [if_pos rfl]
  · rw [if_neg h2, if_neg h2]
    obtain ⟨r, hr1, rfl⟩ := z_j (by omega) h2
    exact e_landing_j (xc := 0) (r := r) hN hG hc hm hw x2 (Or.inr ⟨rfl, by omega⟩)
