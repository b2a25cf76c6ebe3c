variable {G : Nat → Nat → Nat} {regions balloons letters loft start seed count turnCount : Int32} {risk distance comeback capacity pigeons weight priority turnFrom turnTo follow land aimCount aim : Nat → Int32} {mLoft mStart mSeed : Int32} {mRegions mRisk mDistance mBack mWinds mNamed mNR mNW mTurns mTF mTT mTW mBalloons mRoom mPigeons mLetters mWeight mPriority : Nat → Int32}
variable {wind : Int32} {mNow : Nat → Int32} {now then_ chance chanceNext : Nat → Int64} {wd : Nat}
/-- the numerator of the chance of an answer after d days -/
def aC (G : Nat → Nat → Nat) (wd d p : Nat) : Nat := chA (G 0 1) (G 0 0) (lT (G 4) (G 5) (G 6)) (G 1) (G 3) p (chD (G 0 1) (tF (G 0 2) (G 7) (G 8) (G 9)) wd 6 d)
def dC (G : Nat → Nat → Nat) (wd d : Nat) : Nat := sm (G 0 0) (fun r => chL (G 0 1) (lT (G 4) (G 5) (G 6)) (chD (G 0 1) (tF (G 0 2) (G 7) (G 8) (G 9)) wd 6 d) r * (10 - G 1 r))
theorem e_cans {N p : Nat} {ch : Nat → Nat} (hN : 100 < N) (hN2 : N < 2 ^ 31) (hp : p ≤ 4) (hG : WF G) (hc : RGc G regions balloons letters loft start seed count turnCount risk distance comeback capacity pigeons weight priority turnFrom turnTo follow land aimCount aim) (hh : ∀ k, k < 6 → now k = lN (ch k)) : f_X0_answered N regions comeback count now land risk (nI p) = some (lN (chA (G 0 1) (G 0 0) (lT (G 4) (G 5) (G 6)) (G 1) (G 3) p ch)) := by
  have hl := e_land (N := N) hG hc
  obtain ⟨⟨g0, g1, g2, g3, g4, g5, g6, g7⟩, gr, ⟨gna, gn1, gn2, gn3⟩, ⟨gt1, gt2, gt3⟩, gb, gl⟩ := hG
  obtain ⟨⟨rfl, rfl, rfl, rfl, rfl, rfl, rfl, rfl⟩, cr, cb, cl, ct, cf, cla, cac, cai⟩ := hc
  exact s_answered hN hN2 hp (by omega) (by omega) hl.1 hl.2 hh (fun k hk => ⟨(cr k hk).1, (gr k hk).1⟩) (fun k hk => ⟨(cr k hk).2.2, (gr k hk).2.2.2⟩)
theorem e_chanceOf {N p d : Nat} {x1 : Int32} {c : Nat → Nat} (hN : 100 < N) (hN2 : N < 2 ^ 31) (hG : WF G) (hm : RGm G mLoft mStart mSeed mRegions mRisk mDistance mBack mWinds mNamed mNR mNW mTurns mTF mTT mTW mBalloons mRoom mPigeons mLetters mWeight mPriority) (hd : d < 100) (hw : wd < G 0 1) (hw2 : mNow 1 = nI wd) (hx : (x1 = -1 ∧ (∀ r, c r = 1)) ∨ (x1 = nI p ∧ p ≤ 4 ∧ ∀ r, c r = 10 ^ p - (10 - G 3 r) ^ p)) (chance chanceNext : Nat → Int64) : ∃ a' b', f_X9_chanceOf N mNow chance mTurns mTF mTW chanceNext mTT mWinds mRegions mNamed mNW mNR mRisk mBack x1 (nI d) = some (lN (sm (G 0 0) (fun r => chL (G 0 1) (lT (G 4) (G 5) (G 6)) (chD (G 0 1) (tF (G 0 2) (G 7) (G 8) (G 9)) wd 6 d) r * (10 - G 1 r) * c r)), a', b') := by
  obtain ⟨a', b', h5, h6⟩ := e_goes (sh := 6) (d := d) hN hG hm hd hw hw2 chance chanceNext
  rw [z_sh2] at h5
  have hf : ∀ w r, w < G 0 1 → r < G 0 0 → f_X9_weightBy N mNamed mNW mNR (nI w) (nI r) = some (nI (lT (G 4) (G 5) (G 6) w r)) ∧ lT (G 4) (G 5) (G 6) w r < 2 ^ 31 := fun w r hw hr => e_wby hN hG hm hw (by have := hG.1.1; omega)
  obtain ⟨⟨g0, g1, g2, g3, g4, g5, g6, g7⟩, gr, ⟨gna, gn1, gn2, gn3⟩, ⟨gt1, gt2, gt3⟩, gb, gl⟩ := hG
  obtain ⟨⟨m0, m1, m2, m3, m4, rfl, rfl, rfl⟩, mr, mb, ml, mt, mna, mnr⟩ := hm
  have := m_chance_12 (N := N) hN hN2 (by omega) (by omega) m1 m0 hx hf (fun k hk => ⟨(mr k hk).1, (gr k hk).1⟩) (fun k hk => ⟨(mr k hk).2.2, (gr k hk).2.2.2⟩) h6 N 0 0 (by omega) (by omega) rfl
  rw [chA_alt, show nI 0 = 0 from rfl, show lN 0 = 0 from rfl] at this
  refine ⟨a', b', ?_⟩
  unfold f_X9_chanceOf
  rw [h5, z_ob2, this, z_ob2]
theorem e_deliveryChance {N : Nat} (hN : 100 < N) (hN2 : N < 2 ^ 31) (hG : WF G) (hc : RGc G regions balloons letters loft start seed count turnCount risk distance comeback capacity pigeons weight priority turnFrom turnTo follow land aimCount aim) (hm : RGm G mLoft mStart mSeed mRegions mRisk mDistance mBack mWinds mNamed mNR mNW mTurns mTF mTT mTW mBalloons mRoom mPigeons mLetters mWeight mPriority) (hw : 0 < G 0 1 → wind = nI wd ∧ mNow 1 = nI wd ∧ wd < G 0 1) (x1 : Int32) : ∃ r a b a' b', f_X8_deliveryChance N regions count wind now then_ follow land risk x1 = some (r, a, b) ∧ f_X9_deliveryChance N mWinds mNow chance mTurns mTF mTW chanceNext mTT mRegions mNamed mNW mNR mRisk mBack x1 = some (r, 0, a', b') := by
  unfold f_X8_deliveryChance f_X9_deliveryChance
  have hcc : count = nI (G 0 1) := hc.1.2.2.2.2.2.2.1
  have g1 : G 0 1 ≤ 6 := hG.1.2.1
  have m1 : mWinds 0 = nI (G 0 1) := hm.1.2.1
  have e0 : (nI (G 0 1) = 0) = (G 0 1 = 0) := z_eq (b := 0) (by omega) (by omega)
  rw [z_days, z_ob1, z_gI0 (by omega) (by omega), z_c0, m1]
  rw [hcc, z_can (by omega), z_ob1]
  simp only [z_01]
  by_cases h2 : x1 < 0 ∨ nI 9 ≤ x1
  · exact ⟨_, _, _, _, _, if_pos (Or.inl h2), if_pos h2⟩
  by_cases h0 : G 0 1 = 0
  · exact ⟨_, _, _, _, _, if_pos (Or.inr h0), (if_neg h2).trans (if_pos (by rw [e0]; exact h0))⟩
  obtain ⟨d, hd1, rfl⟩ := z_j (by omega) h2
  obtain ⟨rfl, w2, w3⟩ := hw (by omega)
  obtain ⟨a, b, h3, h4⟩ := e_look (sh := 6) (d := d) hN hG hc (by omega) w3 now then_
  obtain ⟨a', b', h5⟩ := e_chanceOf (x1 := -1) (p := 0) (c := fun _ => 1) (d := d) hN hN2 hG hm (by omega) w3 w2 (Or.inl ⟨rfl, fun _ => rfl⟩) chance chanceNext
  rw [z_sh2] at h3
  have hl := e_land (N := N) hG hc
  refine ⟨lN (dC G wd d), a, b, a', b', (if_neg (by intro q; rcases q with q | q; exact h2 q; exact h0 q)).trans ?_, (if_neg h2).trans ((if_neg (by rw [e0]; exact h0)).trans ?_)⟩
  · have h7 : f_X0_delivered N regions (nI (G 0 1)) a land risk = some (lN (dC G wd d)) := by
      obtain ⟨⟨g0, g1, g2, g3, g4, g5, g6, g7⟩, gr, ⟨gna, gn1, gn2, gn3⟩, ⟨gt1, gt2, gt3⟩, gb, gl⟩ := hG
      obtain ⟨⟨rfl, rfl, rfl, rfl, rfl, rfl, rfl, rfl⟩, cr, cb, cl, ct, cf, cla, cac, cai⟩ := hc
      exact s_delivered hN (by omega) (by omega) hl.1 hl.2 h4 (fun k hk => ⟨(cr k hk).1, (gr k hk).1⟩)
    rw [← hcc, h3, z_ob2, hcc, h7, z_ob1]
  · rw [h5, z_ob3]
    have : sm (G 0 0) (fun r => chL (G 0 1) (lT (G 4) (G 5) (G 6)) (chD (G 0 1) (tF (G 0 2) (G 7) (G 8) (G 9)) wd 6 d) r * (10 - G 1 r) * 1) = dC G wd d := sm_congr (fun k _ => Nat.mul_one _)
    rw [this]
theorem z_may {N : Nat} (hm : RGm G mLoft mStart mSeed mRegions mRisk mDistance mBack mWinds mNamed mNR mNW mTurns mTF mTT mTW mBalloons mRoom mPigeons mLetters mWeight mPriority) (hG : WF G) (x1 x2 : Int32) : f_X9_mayAsk N mWinds x1 x2 = some (if (x1 < 0 ∨ nI 5 ≤ x1) ∨ (x2 < 0 ∨ nI 9 ≤ x2) ∨ G 0 1 = 0 then 0 else 1) := by
  unfold f_X9_mayAsk
  have g1 : G 0 1 ≤ 6 := hG.1.2.1
  have m1 : mWinds 0 = nI (G 0 1) := hm.1.2.1
  have e0 : (nI (G 0 1) ≤ 0) = (G 0 1 ≤ 0) := z_le (b := 0) (by omega) (by omega)
  rw [z_within' x1 4 5 (by decide) (by decide), z_ob1, z_days, z_ob1, z_gI0 (by omega) (by omega), z_c0, m1, show (5 : Int32) = nI 5 from rfl]
  simp only [z_01, e0]
  by_cases h1 : x1 < 0 ∨ nI 5 ≤ x1
  · rw [if_pos h1, if_pos (Or.inl h1)]
  rw [if_neg h1]
  by_cases h2 : x2 < 0 ∨ nI 9 ≤ x2
  · rw [if_pos h2, if_pos (Or.inr (Or.inl h2))]
  rw [if_neg h2]
  by_cases h3 : G 0 1 = 0
  · rw [if_pos (by omega), if_pos (Or.inr (Or.inr h3))]
  · rw [if_neg (by omega), if_neg (by intro q; rcases q with q | q | q; exact h1 q; exact h2 q; exact h3 q)]
theorem e_answerChance {N : Nat} (hN : 100 < N) (hN2 : N < 2 ^ 31) (hG : WF G) (hc : RGc G regions balloons letters loft start seed count turnCount risk distance comeback capacity pigeons weight priority turnFrom turnTo follow land aimCount aim) (hm : RGm G mLoft mStart mSeed mRegions mRisk mDistance mBack mWinds mNamed mNR mNW mTurns mTF mTT mTW mBalloons mRoom mPigeons mLetters mWeight mPriority) (hw : 0 < G 0 1 → wind = nI wd ∧ mNow 1 = nI wd ∧ wd < G 0 1) (x1 x2 : Int32) : ∃ r a b a' b', f_X8_answerChance N regions count wind now then_ follow comeback land risk x1 x2 = some (r, a, b) ∧ f_X9_answerChance N mWinds mNow chance mTurns mTF mTW chanceNext mTT mRegions mNamed mNW mNR mRisk mBack x1 x2 = some (r, 0, a', b') := by
  unfold f_X8_answerChance f_X9_answerChance
  have hcc : count = nI (G 0 1) := hc.1.2.2.2.2.2.2.1
  have g1 : G 0 1 ≤ 6 := hG.1.2.1
  rw [z_may hm hG, z_ob1, z_crew, z_ob1]
  rw [hcc, z_can (by omega), z_ob1]
  simp only [z_01]
  by_cases h1 : x1 < 0 ∨ nI 5 ≤ x1
  · exact ⟨_, _, _, _, _, if_pos h1, if_pos (Or.inl h1)⟩
  by_cases h2 : (x2 < 0 ∨ nI 9 ≤ x2) ∨ G 0 1 = 0
  · exact ⟨_, _, _, _, _, (if_neg h1).trans (if_pos h2), if_pos (Or.inr h2)⟩
  obtain ⟨p, hp1, rfl⟩ := z_j (by omega) h1
  obtain ⟨d, hd1, rfl⟩ := z_j (by omega) (fun q => h2 (Or.inl q))
  obtain ⟨rfl, w2, w3⟩ := hw (by omega)
  obtain ⟨a, b, h3, h4⟩ := e_look (sh := 6) (d := d) hN hG hc (by omega) w3 now then_
  obtain ⟨a', b', h5⟩ := e_chanceOf (x1 := nI p) (p := p) (c := fun r => 10 ^ p - (10 - G 3 r) ^ p) (d := d) hN hN2 hG hm (by omega) w3 w2 (Or.inr ⟨rfl, by omega, fun _ => rfl⟩) chance chanceNext
  rw [z_sh2] at h3
  refine ⟨lN (aC G wd d p), a, b, a', b', (if_neg h1).trans ((if_neg h2).trans ?_), (if_neg (by intro q; rcases q with q | q; exact h1 q; exact h2 q)).trans ?_⟩
  · rw [← hcc, h3, z_ob2, e_cans hN hN2 (by omega) hG hc h4, z_ob1]; rfl
  · rw [h5, z_ob3]; rfl
/-- all chances together are at most 10 ^ d -/
theorem chD_sum {nW nT : Nat} {tf tt tw : Nat → Nat} (ht : ∀ k, k < nT → tt k < nW) (hs : ∀ w, tS nT tf tw w ≤ 10) (w sh : Nat) : ∀ d : Nat, sm nW (chD nW (tF nT tf tt tw) w sh d) ≤ 10 ^ d
  | 0 => by
    have h1 : sm nW (chD nW (tF nT tf tt tw) w sh 0) ≤ sm nW (fun k => if k = w then 1 else 0) := sm_le (fun k _ => by unfold chD; split; exact Nat.zero_le _; exact Nat.le_refl _)
    have h2 := sm_delta w (fun _ => 1) nW
    have h3 : (if w < nW then 1 else 0) ≤ 1 := by split <;> omega
    rw [Nat.pow_zero]
    omega
  | d + 1 => by
    have ih := chD_sum ht hs w sh d
    have h1 : sm nW (chD nW (tF nT tf tt tw) w sh (d + 1)) ≤ sm nW (fun v => sm nW (fun u => chD nW (tF nT tf tt tw) w sh d u * tF nT tf tt tw u v)) := by
      refine sm_le (fun k hk => ?_)
      show (if k = sh then 0 else chS nW (tF nT tf tt tw) (chD nW (tF nT tf tt tw) w sh d) k) ≤ _
      split
      · exact Nat.zero_le _
      · unfold chS; rw [if_pos hk]; exact Nat.le_refl _
    have h2 : sm nW (fun v => sm nW (fun u => chD nW (tF nT tf tt tw) w sh d u * tF nT tf tt tw u v)) = sm nW (fun u => chD nW (tF nT tf tt tw) w sh d u * sm nW (fun v => tF nT tf tt tw u v)) := by
      rw [sm_comm]; exact sm_congr (fun u _ => sm_mul _ _ _)
    have h3 : ∀ u, u < nW → sm nW (fun v => tF nT tf tt tw u v) ≤ 10 := by
      intro u hu
      unfold tF
      rw [sm_add]
      have e1 : sm nW (fun v => if u = v then 10 - tS nT tf tw u else 0) = 10 - tS nT tf tw u := by
        have := sm_delta u (fun _ => 10 - tS nT tf tw u) nW
        rw [if_pos hu] at this
        refine Eq.trans (sm_congr (fun k _ => ?_)) this
        by_cases e : u = k
        · rw [if_pos e, if_pos e.symm]
        · rw [if_neg e, if_neg (fun q => e q.symm)]
      have e2 : sm nW (fun v => tP nT tf tt tw u v) = tS nT tf tw u := by
        unfold tP tS
        rw [sm_comm]
        refine sm_congr (fun k hk => ?_)
        have := sm_delta (tt k) (fun _ => if tf k = u then tw k else 0) nW
        rw [if_pos (ht k hk)] at this
        rw [← this]
        refine sm_congr (fun v _ => ?_)
        by_cases e : v = tt k
        · by_cases e2 : tf k = u
          · rw [if_pos ⟨e2, e.symm⟩, if_pos e, if_pos e2]
          · rw [if_neg (fun q => e2 q.1), if_pos e, if_neg e2]
        · rw [if_neg (fun q => e q.2.symm), if_neg e]
      rw [e1, e2]
      have := hs u
      omega
    have h4 : sm nW (fun u => chD nW (tF nT tf tt tw) w sh d u * sm nW (fun v => tF nT tf tt tw u v)) ≤ sm nW (fun u => chD nW (tF nT tf tt tw) w sh d u * 10) := sm_le (fun u hu => Nat.mul_le_mul_left _ (h3 u hu))
    rw [sm_mulr] at h4
    have h5 : sm nW (chD nW (tF nT tf tt tw) w sh d) * 10 ≤ 10 ^ d * 10 := Nat.mul_le_mul_right _ ih
    rw [Nat.pow_succ]
    omega
theorem lP_sum {na nr nw : Nat → Nat} {nR w : Nat} (hr : ∀ k, k < na w → nr (8 * w + k) < nR) : sm nR (fun r => lP na nr nw w r) = lS na nw w := by
  unfold lP lS
  rw [sm_comm]
  refine sm_congr (fun k hk => ?_)
  have := sm_delta (nr (8 * w + k)) (fun _ => nw (8 * w + k)) nR
  rw [if_pos (hr k hk)] at this
  refine Eq.trans (sm_congr (fun r _ => ?_)) this
  by_cases e : r = nr (8 * w + k)
  · rw [if_pos e.symm, if_pos e]
  · rw [if_neg (fun q => e q.symm), if_neg e]
theorem aC_le (hG : WF G) (wd d p : Nat) : aC G wd d p ≤ 10 ^ d * 10 * 10 * 10 ^ p := by
  obtain ⟨⟨g0, g1, g2, g3, g4, g5, g6, g7⟩, gr, ⟨gna, gn1, gn2, gn3⟩, ⟨gt1, gt2, gt3⟩, gb, gl⟩ := hG
  have h1 := chD_sum (nW := G 0 1) (fun k hk => (gt1 k hk).2.1) gt3 wd 6 d
  unfold aC chA
  have h2 : sm (G 0 0) (fun r => chL (G 0 1) (lT (G 4) (G 5) (G 6)) (chD (G 0 1) (tF (G 0 2) (G 7) (G 8) (G 9)) wd 6 d) r * (10 - G 1 r) * (10 ^ p - (10 - G 3 r) ^ p)) ≤ sm (G 0 0) (fun r => chL (G 0 1) (lT (G 4) (G 5) (G 6)) (chD (G 0 1) (tF (G 0 2) (G 7) (G 8) (G 9)) wd 6 d) r * (10 * 10 ^ p)) := by
    refine sm_le (fun r _ => ?_)
    rw [Nat.mul_assoc]
    exact Nat.mul_le_mul_left _ (Nat.mul_le_mul (Nat.sub_le _ _) (Nat.sub_le _ _))
  rw [sm_mulr] at h2
  have h3 : sm (G 0 0) (fun r => chL (G 0 1) (lT (G 4) (G 5) (G 6)) (chD (G 0 1) (tF (G 0 2) (G 7) (G 8) (G 9)) wd 6 d) r) ≤ sm (G 0 1) (fun w => chD (G 0 1) (tF (G 0 2) (G 7) (G 8) (G 9)) wd 6 d w * 10) := by
    unfold chL
    rw [sm_comm]
    refine sm_le (fun w hw => ?_)
    rw [sm_mul]
    refine Nat.mul_le_mul_left _ ?_
    have e : sm (G 0 0) (fun r => lT (G 4) (G 5) (G 6) w r) = lS (G 4) (G 6) w := by
      rw [← lP_sum (nr := G 5) (nR := G 0 0) (fun k hk => (gn1 w k hw hk).1)]
      exact sm_congr (fun r hr => by unfold lT; rw [if_neg (by omega)])
    rw [e]
    exact gn3 w hw
  rw [sm_mulr] at h3
  refine Nat.le_trans h2 ?_
  rw [Nat.mul_assoc (10 ^ d * 10)]
  exact Nat.mul_le_mul_right _ (Nat.le_trans h3 (Nat.mul_le_mul_right _ h1))
