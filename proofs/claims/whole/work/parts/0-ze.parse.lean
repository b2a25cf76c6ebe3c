variable {G : Nat → Nat → Nat} {regions balloons letters loft start seed count turnCount : Int32} {risk distance comeback capacity pigeons weight priority turnFrom turnTo follow land aimCount aim : Nat → Int32} {mLoft mStart mSeed : Int32} {mRegions mRisk mDistance mBack mWinds mNamed mNR mNW mTurns mTF mTT mTW mBalloons mRoom mPigeons mLetters mWeight mPriority : Nat → Int32}
variable {P : Nat → Nat → Nat} {T : Nat} {day wind loftN lost lc jc : Int32} {ds : Int64} {jk jn jd bst br cg lt an ho du la mNow : Nat → Int32}
variable {G0 : Nat → Nat → Nat}
/-- the bytes that both have -/
def TX (L : Nat) (c m : Nat → Int32) : Prop := ∀ k, k < L → ∃ b, b < 256 ∧ c k = yB b ∧ m k = yB b
theorem nar_b (x : Int32) : ∃ b, b < 256 ∧ vp_nar .byte (x.toInt8.toInt32) = yB b := by
  obtain ⟨b, h1, h2⟩ := yB_ex (x.toInt8.toInt32).toInt8
  exact ⟨b, h1, h2⟩
theorem ab_step {N n L : Nat} {x1 y : Int32} {c m : Nat → Int32} (hy : ¬ y < 0) (hL : L < 900) (h : TX L c m) : ∃ c' m', f_X8_appendBytes_3 N x1 (n + 1) y (nI L) c = f_X8_appendBytes_3 N x1 n (y + (-8)) (nI (L + 1)) c' ∧ f_X9_bytesOf_3 N x1 (n + 1) y (nI L) m = f_X9_bytesOf_3 N x1 n (y + (-8)) (nI (L + 1)) m' ∧ TX (L + 1) c' m' := by
  obtain ⟨b, b1, b2⟩ := nar_b (x1 >>> (y &&& 31))
  rw [f_X8_appendBytes_3.eq_2, f_X9_bytesOf_3.eq_2, if_neg hy, if_neg hy, if_neg (nI_pos (by omega)), show (900 : Int32) = nI 900 from rfl, if_neg (by rw [z_le (by omega) (by omega)]; omega), z_gIx (by omega) (by omega), z_gIx (by omega) (by omega), z_cl (by omega), nI_1, b2]
  refine ⟨_, _, rfl, rfl, fun k hk => ?_⟩
  by_cases e1 : k = L
  · subst e1; exact ⟨b, b1, pk_us, pk_us⟩
  · rw [pk_un e1, pk_un e1]; exact h k (by omega)
theorem ab_4 {N L : Nat} {x1 : Int32} {c m : Nat → Int32} (hN : 3000 < N) (hL : L + 4 ≤ 900) (h : TX L c m) : ∃ c' m', f_X8_appendBytes N (nI L) c x1 = some (nI (L + 4), c') ∧ f_X9_bytesOf N (nI L) m x1 = some (nI (L + 4), m') ∧ TX (L + 4) c' m' := by
  obtain ⟨n, rfl⟩ : ∃ n, N = n + 1 + 1 + 1 + 1 + 1 := ⟨N - 5, by omega⟩
  unfold f_X8_appendBytes f_X9_bytesOf
  obtain ⟨c1, m1, p1, q1, h1⟩ := ab_step (N := n + 1 + 1 + 1 + 1 + 1) (n := n + 1 + 1 + 1 + 1) (x1 := x1) (y := 24) (by decide) (by omega) h
  obtain ⟨c2, m2, p2, q2, h2⟩ := ab_step (N := n + 1 + 1 + 1 + 1 + 1) (n := n + 1 + 1 + 1) (x1 := x1) (y := 24 + (-8)) (by decide) (by omega) h1
  obtain ⟨c3, m3, p3, q3, h3⟩ := ab_step (N := n + 1 + 1 + 1 + 1 + 1) (n := n + 1 + 1) (x1 := x1) (y := 24 + (-8) + (-8)) (by decide) (by omega) h2
  obtain ⟨c4, m4, p4, q4, h4⟩ := ab_step (N := n + 1 + 1 + 1 + 1 + 1) (n := n + 1) (x1 := x1) (y := 24 + (-8) + (-8) + (-8)) (by decide) (by omega) h3
  rw [p1, p2, p3, p4, q1, q2, q3, q4, f_X8_appendBytes_3.eq_2, f_X9_bytesOf_3.eq_2, if_pos (by decide), if_pos (by decide), z_ob3, z_ob3]
  exact ⟨c4, m4, rfl, rfl, h4⟩
theorem e_append {N L : Nat} {c m : Nat → Int32} (hN : 3000 < N) (hL : L ≤ 900) (h : TX L c m) (x1 x2 x3 x4 x5 : Int32) : ∃ r L' c' m', f_X8_append N (nI L) c x1 x2 x3 x4 x5 = some (r, nI L', c') ∧ f_X9_append N (nI L) m x1 x2 x3 x4 x5 = some (r, 0, nI L', m') ∧ L' ≤ 900 ∧ TX L' c' m' := by
  unfold f_X8_append f_X9_append
  have q1 : (nI L ≤ 880) = (L ≤ 880) := z_le (b := 880) (by omega) (by omega)
  have q2 : (nI (L + 20) ≤ 900) = (L + 20 ≤ 900) := z_le (b := 900) (by omega) (by omega)
  rw [show (20 : Int32) = nI 20 from rfl, z_add]
  simp only [q1, q2]
  by_cases hc : L ≤ 880
  · obtain ⟨c1, m1, p1, q1, h1⟩ := ab_4 (N := N) (x1 := x1) hN (by omega) h
    obtain ⟨c2, m2, p2, q2, h2⟩ := ab_4 (N := N) (x1 := x2) hN (by omega) h1
    obtain ⟨c3, m3, p3, q3, h3⟩ := ab_4 (N := N) (x1 := x3) hN (by omega) h2
    obtain ⟨c4, m4, p4, q4, h4⟩ := ab_4 (N := N) (x1 := x4) hN (by omega) h3
    obtain ⟨c5, m5, p5, q5, h5⟩ := ab_4 (N := N) (x1 := x5) hN (by omega) h4
    rw [if_pos hc, if_pos (by omega), p1, z_ob2, p2, z_ob2, p3, z_ob2, p4, z_ob2, p5, z_ob2, q1, z_ob2, q2, z_ob2, q3, z_ob2, q4, z_ob2, q5, z_ob2]
    exact ⟨_, L + 4 + 4 + 4 + 4 + 4, c5, m5, rfl, rfl, by omega, h5⟩
  · rw [if_neg hc, if_neg (by omega)]
    exact ⟨-1, L, c, m, rfl, rfl, hL, h⟩
theorem m_b166 {N : Nat} {flag dd lf sw : Int32} {now isSaved now' sv : Nat → Int32} (hf : DF flag dd (G 0 7) 1) (hg : G 0 7 < 2 ^ 31) (hb : f_X9_begins N lf sw (nI (G 0 7)) now mWinds isSaved = some (0, now', sv)) : f_X9_becomes_j166 N dd now isSaved lf mRegions mRisk mDistance mBack mWinds mNamed mNR mNW mTurns mTF mTT mTW mBalloons mRoom mPigeons mLetters mWeight mPriority sw = some (lf, sw, nI (G 0 7), 0, mRegions, mRisk, mDistance, mBack, mWinds, mNamed, mNR, mNW, mTurns, mTF, mTT, mTW, mBalloons, mRoom, mPigeons, mLetters, mWeight, mPriority, now', sv) := by
  unfold f_X9_becomes_j166
  rcases hf with ⟨_, rfl, g8⟩ | ⟨_, rfl⟩
  · rw [g8, show nI 1 = 1 from rfl] at hb
    rw [if_pos rfl, hb, z_ob3, g8]; rfl
  · rw [if_neg (show ¬ nI (G 0 7) = -2 by rw [z_m2 hg]; exact id), hb, z_ob3]
theorem m_b145 {N : Nat} {flag flag2 ds dd lf : Int32} {now isSaved now' sv : Nat → Int32} (hf : DF flag ds (G 0 6) 0) (hg : G 0 6 < 2 ^ 31) (hf2 : DF flag2 dd (G 0 7) 1) (hg2 : G 0 7 < 2 ^ 31) (hb : f_X9_begins N lf (nI (G 0 6)) (nI (G 0 7)) now mWinds isSaved = some (0, now', sv)) : f_X9_becomes_j145 N ds dd now isSaved mRegions mRisk mDistance mBack mWinds mNamed mNR mNW mTurns mTF mTT mTW mBalloons mRoom mPigeons mLetters mWeight mPriority lf = some (lf, nI (G 0 6), nI (G 0 7), 0, mRegions, mRisk, mDistance, mBack, mWinds, mNamed, mNR, mNW, mTurns, mTF, mTT, mTW, mBalloons, mRoom, mPigeons, mLetters, mWeight, mPriority, now', sv) := by
  unfold f_X9_becomes_j145
  rcases hf with ⟨_, rfl, g8⟩ | ⟨_, rfl⟩
  · rw [g8, show nI 0 = 0 from rfl] at hb
    rw [if_pos rfl, m_b166 hf2 hg2 hb, g8]; rfl
  · rw [if_neg (show ¬ nI (G 0 6) = -2 by rw [z_m2 hg]; exact id), m_b166 hf2 hg2 hb]
theorem m_becomes {N : Nat} {f1 f2 f3 dl ds dd : Int32} {now isSaved : Nat → Int32} (hN : 3000 < N) (hG : WF G) (hm : DM G mRegions mRisk mDistance mBack mWinds mNamed mNR mNW mTurns mTF mTT mTW mBalloons mRoom mPigeons mLetters mWeight mPriority) (hf1 : DF f1 dl (G 0 5) 8) (hf2 : DF f2 ds (G 0 6) 0) (hf3 : DF f3 dd (G 0 7) 1) : ∃ mRegions' mRisk' mDistance' mBack' mWinds' mNamed' mNR' mNW' mTurns' mTF' mTT' mTW' mBalloons' mRoom' mPigeons' mLetters' mWeight' mPriority', RGm G (nI (G 0 5)) (nI (G 0 6)) (nI (G 0 7)) mRegions' mRisk' mDistance' mBack' mWinds' mNamed' mNR' mNW' mTurns' mTF' mTT' mTW' mBalloons' mRoom' mPigeons' mLetters' mWeight' mPriority' ∧ ∀ now' sv, f_X9_begins N (nI (G 0 5)) (nI (G 0 6)) (nI (G 0 7)) now mWinds' isSaved = some (0, now', sv) → f_X9_becomes N dl ds dd mRegions mRisk mDistance mBack mWinds mNamed mNR mNW mTurns mTF mTT mTW mBalloons mRoom mPigeons mLetters mWeight mPriority now isSaved = some (nI (G 0 5), nI (G 0 6), nI (G 0 7), 0, mRegions', mRisk', mDistance', mBack', mWinds', mNamed', mNR', mNW', mTurns', mTF', mTT', mTW', mBalloons', mRoom', mPigeons', mLetters', mWeight', mPriority', now', sv) := by
  obtain ⟨⟨g0, g1, g2, g3, g4, g5, g6, g7⟩, gr, ⟨gna, gn1, gn2, gn3⟩, ⟨gt1, gt2, gt3⟩, gb, gl⟩ := hG
  obtain ⟨⟨m0, m1, m2, m3, m4⟩, mr, mb, ml, mt, mna, mnr⟩ := hm
  obtain ⟨mRegions', p0, q0⟩ := m_lift (N := N) (n := 2) (h := 1) (a := mRegions) hN (by omega) rfl (by decide)
  obtain ⟨mRisk', p1, q1⟩ := m_lift (N := N) (n := 16) (h := 8) (a := mRisk) hN (by omega) rfl (by decide)
  obtain ⟨mDistance', p2, q2⟩ := m_lift (N := N) (n := 16) (h := 8) (a := mDistance) hN (by omega) rfl (by decide)
  obtain ⟨mBack', p3, q3⟩ := m_lift (N := N) (n := 16) (h := 8) (a := mBack) hN (by omega) rfl (by decide)
  obtain ⟨mWinds', p4, q4⟩ := m_lift (N := N) (n := 2) (h := 1) (a := mWinds) hN (by omega) rfl (by decide)
  obtain ⟨mNamed', p5, q5⟩ := m_lift (N := N) (n := 12) (h := 6) (a := mNamed) hN (by omega) rfl (by decide)
  obtain ⟨mNR', p6, q6⟩ := m_lift (N := N) (n := 96) (h := 48) (a := mNR) hN (by omega) rfl (by decide)
  obtain ⟨mNW', p7, q7⟩ := m_lift (N := N) (n := 96) (h := 48) (a := mNW) hN (by omega) rfl (by decide)
  obtain ⟨mTurns', p8, q8⟩ := m_lift (N := N) (n := 2) (h := 1) (a := mTurns) hN (by omega) rfl (by decide)
  obtain ⟨mTF', p9, q9⟩ := m_lift (N := N) (n := 60) (h := 30) (a := mTF) hN (by omega) rfl (by decide)
  obtain ⟨mTT', p10, q10⟩ := m_lift (N := N) (n := 60) (h := 30) (a := mTT) hN (by omega) rfl (by decide)
  obtain ⟨mTW', p11, q11⟩ := m_lift (N := N) (n := 60) (h := 30) (a := mTW) hN (by omega) rfl (by decide)
  obtain ⟨mBalloons', p12, q12⟩ := m_lift (N := N) (n := 2) (h := 1) (a := mBalloons) hN (by omega) rfl (by decide)
  obtain ⟨mRoom', p13, q13⟩ := m_lift (N := N) (n := 20) (h := 10) (a := mRoom) hN (by omega) rfl (by decide)
  obtain ⟨mPigeons', p14, q14⟩ := m_lift (N := N) (n := 20) (h := 10) (a := mPigeons) hN (by omega) rfl (by decide)
  obtain ⟨mLetters', p15, q15⟩ := m_lift (N := N) (n := 2) (h := 1) (a := mLetters) hN (by omega) rfl (by decide)
  obtain ⟨mWeight', p16, q16⟩ := m_lift (N := N) (n := 48) (h := 24) (a := mWeight) hN (by omega) rfl (by decide)
  obtain ⟨mPriority', p17, q17⟩ := m_lift (N := N) (n := 48) (h := 24) (a := mPriority) hN (by omega) rfl (by decide)
  refine ⟨mRegions', mRisk', mDistance', mBack', mWinds', mNamed', mNR', mNW', mTurns', mTF', mTT', mTW', mBalloons', mRoom', mPigeons', mLetters', mWeight', mPriority', ⟨⟨(q0 0 (by omega)).trans m0, (q4 0 (by omega)).trans m1, (q8 0 (by omega)).trans m2, (q12 0 (by omega)).trans m3, (q15 0 (by omega)).trans m4, rfl, rfl, rfl⟩, fun k hk => ?_, fun k hk => ?_, fun k hk => ?_, fun k hk => ?_, fun k hk => ?_, fun k j hk hj => ?_⟩, fun now' sv hb => ?_⟩
  · rw [q1 k (by omega), q2 k (by omega), q3 k (by omega)]; exact mr k hk
  · rw [q13 k (by omega), q14 k (by omega)]; exact mb k hk
  · rw [q16 k (by omega), q17 k (by omega)]; exact ml k hk
  · rw [q9 k (by omega), q10 k (by omega), q11 k (by omega)]; exact mt k hk
  · rw [q5 k (by omega)]; exact mna k hk
  · have := gna k hk
    rw [q6 _ (by omega), q7 _ (by omega), show 48 + (8 * k + j) = 8 * (6 + k) + j by omega]; exact mnr k j hk hj
  · unfold f_X9_becomes
    rw [p0, z_ob1, p1, z_ob1, p2, z_ob1, p3, z_ob1, p4, z_ob1, p5, z_ob1, p6, z_ob1, p7, z_ob1, p8, z_ob1, p9, z_ob1, p10, z_ob1, p11, z_ob1, p12, z_ob1, p13, z_ob1, p14, z_ob1, p15, z_ob1, p16, z_ob1, p17, z_ob1]
    rcases hf1 with ⟨_, rfl, g8⟩ | ⟨_, rfl⟩
    · rw [g8, show nI 8 = 8 from rfl] at hb
      rw [if_pos rfl, m_b145 hf2 (by omega) hf3 (by omega) hb, g8]; rfl
    · rw [if_neg (show ¬ nI (G 0 5) = -2 by rw [z_m2 (by omega)]; exact id), m_b145 hf2 (by omega) hf3 (by omega) hb]
theorem c_sf {N : Nat} : ∀ (n i : Nat) (a : Nat → Int32), i ≤ 2 → 2 - i < n → (∀ k, k < i → a k = 0) → ∃ a', f_X8_replaceSiege_43 N n (nI i) a = some (nI 2, a') ∧ ∀ k, k < 2 → a' k = 0 := by
  intro n
  induction n with
  | zero => intro i a h1 h2; omega
  | succ n ih =>
    intro i a h1 h2 h3
    rw [f_X8_replaceSiege_43.eq_2, show (2 : Int32) = nI 2 from rfl]
    by_cases h5 : i < 2
    · rw [if_neg (by rw [z_le (by omega) (by omega)]; omega), z_gIx (by omega) (by omega), z_cl (by omega), nI_1]
      refine ih (i + 1) _ (by omega) (by omega) (fun k hk => ?_)
      by_cases e1 : k = i
      · subst e1; rw [pk_us]; rfl
      · rw [pk_un e1]; exact h3 k (by omega)
    · have : i = 2 := by omega
      subst this
      exact ⟨a, by rw [if_pos (by rw [z_le (by omega) (by omega)]; omega)], h3⟩
theorem e_parse {N L : Nat} {c m isSaved sf : Nat → Int32} {ep und planned s2 en pl ki va co lr sr er dl dst dd ts ms mn mt mv me mnu mund qregions qballoons qletters qloft qstart qseed qcount qturnCount : Int32} {qrisk qdistance qcomeback qfollow qland qaimCount qaim qturnFrom qturnTo qcapacity qpigeons qweight qpriority : Nat → Int32} (hN : 3000 < N) (hL : L ≤ 900) (hT : TX L c m) (hG : WF G) (hm : RGm G mLoft mStart mSeed mRegions mRisk mDistance mBack mWinds mNamed mNR mNW mTurns mTF mTT mTW mBalloons mRoom mPigeons mLetters mWeight mPriority) (x1 : Int32) :
    (∃ r L' ep' mnu' tf s2' en' pl' ki' va' co' lr' sr' er' dl' dst' dd' ts' ms' mn' mt' mv' me' i1 i2 i3 i4 i5 i6 i7 i8 a1 a2 a3 a4 a5 a6 a7 a8 a9 a10 a11 a12 a13 y1 y2 y3 y4 y5 y6 y7 y8 y9 y10 y11 y12 y13 y14 y15 y16 y17 y18, L' ≤ L ∧ f_X8_parse N (nI L) ep und qregions qballoons qletters qloft qstart qseed qcount qturnCount s2 en pl ki va co lr sr er c qrisk qdistance qcomeback qfollow qland qaimCount qaim qturnFrom qturnTo qcapacity qpigeons qweight qpriority day wind loftN lost lc ds jc bst br cg lt regions balloons letters loft start seed an ho du count turnCount planned sf risk distance comeback follow land aimCount aim turnFrom turnTo capacity pigeons weight priority x1 = some (r, nI L', ep', und, i1, i2, i3, i4, i5, i6, i7, i8, s2', en', pl', ki', va', co', lr', sr', er', a1, a2, a3, a4, a5, a6, a7, a8, a9, a10, a11, a12, a13, day, wind, loftN, lost, lc, ds, jc, bst, br, cg, lt, regions, balloons, letters, loft, start, seed, an, ho, du, count, turnCount, planned, sf, risk, distance, comeback, follow, land, aimCount, aim, turnFrom, turnTo, capacity, pigeons, weight, priority, false, tf) ∧ f_X9_parse N mLoft mStart mSeed dl dst dd (nI L) ts ms mn mt mv me ep mnu mund mRegions mWinds mTurns mBalloons mLetters m mRisk mDistance mBack mNR mNW mNamed mTF mTT mTW mRoom mPigeons mWeight mPriority mNow isSaved x1 = some (r, 0, mLoft, mStart, mSeed, dl', dst', dd', nI L', ts', ms', mn', mt', mv', me', ep', mnu', mund, y1, y2, y3, y4, y5, y6, y7, y8, y9, y10, y11, y12, y13, y14, y15, y16, y17, y18, mNow, isSaved) ∧ RGm G mLoft mStart mSeed y1 y6 y7 y8 y2 y11 y9 y10 y3 y12 y13 y14 y4 y15 y16 y5 y17 y18) ∨
    (∃ mnu' lo' sw' se' an' ho' du' sf' now' sv' day' wind' loft' lost' lc' ds' jc' bst' br' cg' lt' s2' en' pl' ki' va' co' lr' sr' er' dl' dst' dd' ts' ms' mn' mt' mv' me' i1 i2 i3 i4 i5 i6 i7 i8 a1 a2 a3 a4 a5 a6 a7 a8 a9 a10 a11 a12 a13 j1 j2 j3 j4 j5 j6 j7 j8 b1 b2 b3 b4 b5 b6 b7 b8 b9 b10 b11 b12 b13 y1 y2 y3 y4 y5 y6 y7 y8 y9 y10 y11 y12 y13 y14 y15 y16 y17 y18, f_X8_parse N (nI L) ep und qregions qballoons qletters qloft qstart qseed qcount qturnCount s2 en pl ki va co lr sr er c qrisk qdistance qcomeback qfollow qland qaimCount qaim qturnFrom qturnTo qcapacity qpigeons qweight qpriority day wind loftN lost lc ds jc bst br cg lt regions balloons letters loft start seed an ho du count turnCount planned sf risk distance comeback follow land aimCount aim turnFrom turnTo capacity pigeons weight priority x1 = some (0, 0, -2, 0, i1, i2, i3, i4, i5, i6, i7, i8, s2', en', pl', ki', va', co', lr', sr', er', a1, a2, a3, a4, a5, a6, a7, a8, a9, a10, a11, a12, a13, day', wind', loft', lost', lc', ds', jc', bst', br', cg', lt', j1, j2, j3, j4, j5, j6, an', ho', du', j7, j8, 0, sf', b1, b2, b3, b4, b5, b6, b7, b8, b9, b10, b11, b12, b13, true, true) ∧ f_X9_parse N mLoft mStart mSeed dl dst dd (nI L) ts ms mn mt mv me ep mnu mund mRegions mWinds mTurns mBalloons mLetters m mRisk mDistance mBack mNR mNW mNamed mTF mTT mTW mRoom mPigeons mWeight mPriority mNow isSaved x1 = some (0, 0, lo', sw', se', dl', dst', dd', 0, ts', ms', mn', mt', mv', me', -2, mnu', 0, y1, y2, y3, y4, y5, y6, y7, y8, y9, y10, y11, y12, y13, y14, y15, y16, y17, y18, now', sv') ∧ ∃ G', WF G' ∧ RGc G' j1 j2 j3 j4 j5 j6 j7 j8 b1 b2 b3 b10 b11 b12 b13 b8 b9 b4 b5 b6 b7 ∧ RGm G' lo' sw' se' y1 y6 y7 y8 y2 y11 y9 y10 y3 y12 y13 y14 y4 y15 y16 y5 y17 y18 ∧ RSx G' T day' wind' loft' lost' lc' ds' jc' jk jn jd bst' br' cg' lt' an' ho' du' la now' ∧ (sf' 0 = 0 ∧ sf' 1 = 0) ∧ sv' 0 = 0 ∧ sv' 1 = 0) := by
  unfold f_X8_parse f_X9_parse
  have hw : f_X9_within N x1 0 (nI L) = some (if x1 < 0 ∨ nI (L + 1) ≤ x1 then 0 else 1) := z_within' x1 (nI L) (nI (L + 1)) (z_pos (by omega)) (by rw [nI_pred])
  rw [hw, z_ob1]
  by_cases h : x1 < 0 ∨ nI (L + 1) ≤ x1
  · left
    rw [if_pos (show (if x1 < 0 ∨ nI (L + 1) ≤ x1 then (0 : Int32) else 1) = 0 from if_pos h)]
    by_cases h1 : x1 < 0
    · rw [if_pos h1]
      exact ⟨-1, L, _, _, _, _, _, _, _, _, _, _, _, _, _, _, _, _, _, _, _, _, _, _, _, _, _, _, _, _, _, _, _, _, _, _, _, _, _, _, _, _, _, _, _, _, _, _, _, _, _, _, _, _, _, _, _, _, _, _, _, _, Nat.le_refl _, rfl, rfl, hm⟩
    · rw [if_neg h1]
      have h2 : ¬ x1 ≤ nI L := by
        rcases h with h | h
        · exact absurd h h1
        · rw [← nI_1] at h
          intro q
          rw [Int32.le_iff_toInt_le] at h q
          rw [nI_1, nI_toInt (by omega)] at h
          rw [nI_toInt (by omega)] at q
          omega
      rw [if_neg h2]
      exact ⟨-1, L, _, _, _, _, _, _, _, _, _, _, _, _, _, _, _, _, _, _, _, _, _, _, _, _, _, _, _, _, _, _, _, _, _, _, _, _, _, _, _, _, _, _, _, _, _, _, _, _, _, _, _, _, _, _, _, _, _, _, _, _, Nat.le_refl _, rfl, rfl, hm⟩
  · obtain ⟨e, he, rfl⟩ := z_j (by omega) h
    obtain ⟨S, Q, K, V, hX⟩ := lx_ex (N := N) (e := e) (c := c) (m := m) hN (by omega) (fun k hk => hT k (by omega))
    obtain ⟨_, _, ⟨w0, t1, t2⟩, _⟩ := hX 0 (Nat.zero_le _)
    rw [show nI 0 = 0 from rfl] at t1
    rw [if_neg (show ¬ (if nI e < 0 ∨ nI (L + 1) ≤ nI e then (0 : Int32) else 1) = 0 by rw [if_neg h]; decide), if_neg (show ¬ nI e < 0 from nI_pos (by omega)), if_pos (show nI e ≤ nI L by rw [z_le (by omega) (by omega)]; omega)]
    unfold f_X4_read f_X5_clear f_X7_clear
    rw [show (900 : Int32) = nI 900 from rfl, if_neg (show ¬ nI 900 < nI e by rw [z_lt (by omega) (by omega)]; omega), z_ob2, z_ob8, z_gI1, z_gI1, z_gI1, z_gI1, z_gI1, z_c1, t1, z_ob4]
    -- the empty draft
    have hE : WF (fun a b => if a = 0 then (if b = 5 then 8 else if b = 7 then 1 else 0) else 0) := by
      refine ⟨⟨by decide, by decide, by decide, by decide, by decide, by decide, Or.inr rfl, by decide⟩, fun k hk => absurd hk (Nat.not_lt_zero k), ⟨fun w hw => absurd hw (Nat.not_lt_zero w), fun w k hw => absurd hw (Nat.not_lt_zero w), fun w k j hw => absurd hw (Nat.not_lt_zero w), fun w hw => absurd hw (Nat.not_lt_zero w)⟩, ⟨fun k hk => absurd hk (Nat.not_lt_zero k), fun k j hk => absurd hk (Nat.not_lt_zero k), fun w => ?_⟩, fun b hb => absurd hb (Nat.not_lt_zero b), fun k hk => absurd hk (Nat.not_lt_zero k)⟩
      show sm 0 _ ≤ 10
      rw [sm_0]; omega
    have hl := x_loop (N := N) (G0 := G) hN (by omega) hX hG 0 (-2) N 0 0 _ 0 0 0 8 0 1 0 0 s2 ki va 0 0 0 (-2) (-2) (-2) _ _ _ w0 mnu qrisk qdistance qcomeback qcapacity qpigeons qweight qpriority qturnFrom qturnTo qfollow qland qaimCount qaim (upd mRegions 1 0) mRisk mDistance mBack (upd mWinds 1 0) mNamed mNR mNW (upd mTurns 1 0) mTF mTT mTW (upd mBalloons 1 0) mRoom mPigeons (upd mLetters 1 0) mWeight mPriority hE
      ⟨⟨⟨rfl, rfl, rfl, rfl, rfl, rfl, rfl, rfl⟩, fun k hk => absurd hk (Nat.not_lt_zero k), fun b hb => absurd hb (Nat.not_lt_zero b), fun k hk => absurd hk (Nat.not_lt_zero k), fun k hk => absurd hk (Nat.not_lt_zero k), fun w v hw => absurd hw (Nat.not_lt_zero w), fun w r hw => absurd hw (Nat.not_lt_zero w), fun w hw => absurd hw (Nat.not_lt_zero w), fun w k hw => absurd hw (Nat.not_lt_zero w)⟩, fun w v hw => absurd hw (Nat.not_lt_zero w)⟩
      ⟨⟨pk_us, pk_us, pk_us, pk_us, pk_us⟩, fun k hk => absurd hk (Nat.not_lt_zero k), fun b hb => absurd hb (Nat.not_lt_zero b), fun k hk => absurd hk (Nat.not_lt_zero k), fun k hk => absurd hk (Nat.not_lt_zero k), fun w hw => absurd hw (Nat.not_lt_zero w), fun w k hw => absurd hw (Nat.not_lt_zero w)⟩
      (RGm_lo hG hm (fun k hk => pk_un (by omega)) (fun _ _ => rfl) (fun _ _ => rfl) (fun _ _ => rfl) (fun k hk => pk_un (by omega)) (fun _ _ => rfl) (fun _ _ => rfl) (fun _ _ => rfl) (fun k hk => pk_un (by omega)) (fun _ _ => rfl) (fun _ _ => rfl) (fun _ _ => rfl) (fun k hk => pk_un (by omega)) (fun _ _ => rfl) (fun _ _ => rfl) (fun k hk => pk_un (by omega)) (fun _ _ => rfl) (fun _ _ => rfl))
      (Or.inl ⟨rfl, rfl, rfl⟩) (Or.inl ⟨rfl, rfl, rfl⟩) (Or.inl ⟨rfl, rfl, rfl⟩) (Nat.zero_le _) (Nat.le_refl _) (by omega) ⟨rfl, rfl, rfl, t2⟩
    rw [show nI 0 = 0 from rfl] at hl
    rcases hl with ⟨ka, sc, pl', ki', va', co', l1, l2, l3, d1, d2, d3, ms', mn', mt', mv', nu, i1, i2, i3, i4, i5, i6, i7, i8, x1, x2, x3, x4, x5, x6, x7, x8, x9, x10, x11, x12, x13, y1, y2, y3, y4, y5, y6, y7, y8, y9, y10, y11, y12, y13, y14, y15, y16, y17, y18, hka, cr, mr, hg⟩ | ⟨sc, pl', ki', va', co', l1, l2, l3, d1, d2, d3, ms', mn', mt', mv', nu, i1, i2, i3, i4, i5, i6, i7, i8, x1, x2, x3, x4, x5, x6, x7, x8, x9, x10, x11, x12, x13, y1, y2, y3, y4, y5, y6, y7, y8, y9, y10, y11, y12, y13, y14, y15, y16, y17, y18, cr, mr, hg, G', w1, w2, w3, w4, w5, w6⟩
    · left
      rw [cr, z_ob31, if_neg hka, mr, z_ob29, if_pos rfl]
      exact ⟨ka, 0, _, _, _, _, _, _, _, _, _, _, _, _, _, _, _, _, _, _, _, _, _, _, _, _, _, _, _, _, _, _, _, _, _, _, _, _, _, _, _, _, _, _, _, _, _, _, _, _, _, _, _, _, _, _, _, _, _, _, _, _, Nat.zero_le _, rfl, rfl, hg⟩
    · right
      obtain ⟨mRegions', mRisk', mDistance', mBack', mWinds', mNamed', mNR', mNW', mTurns', mTF', mTT', mTW', mBalloons', mRoom', mPigeons', mLetters', mWeight', mPriority', g1, g2⟩ := m_becomes (N := N) (now := mNow) (isSaved := isSaved) hN w1 w3 w4 w5 w6
      obtain ⟨⟨⟨c1, c2, c3, c4, c5, c6, c7, c8⟩, crest⟩, cx⟩ := id w2
      obtain ⟨day', wind', loft', lost', lc', ds', jc', bst', br', cg', lt', an', ho', du', now', sv, b1, b2, b3, b4, b5⟩ := e_begin (N := N) (T := T) (G := G') (bst := bst) (br := br) (cg := cg) (lt := lt) (an := an) (ho := ho) (du := du) (mNow := mNow) (jk := jk) (jn := jn) (jd := jd) (la := la) (isSaved := isSaved) (winds := mWinds') hN w1 c3 c4 c5 c6 c7 g1.1.2.1 rfl rfl rfl
      obtain ⟨sf', s1, s2'⟩ := c_sf (N := N) N 0 sf (by omega) (by omega) (fun k hk => absurd hk (Nat.not_lt_zero k))
      rw [show nI 0 = 0 from rfl] at s1
      have g3 := g2 now' sv b2
      unfold f_X8_replaceSiege f_X3_forget
      rw [cr, z_ob31, if_pos rfl, b1, z_ob14, z_ob1, s1, z_ob2, z_ob33, mr, z_ob29, if_neg (show ¬ (1 : Int32) = 0 by decide), g3, z_ob24]
      exact ⟨nu, _, _, _, _, _, _, _, _, _, _, _, _, _, _, _, _, _, _, _, _, _, _, _, _, _, _, _, _, _, _, _, _, _, _, _, _, _, _, _, _, _, _, _, _, _, _, _, _, _, _, _, _, _, _, _, _, _, _, _, _, _, _, _, _, _, _, _, _, _, _, _, _, _, _, _, _, _, _, _, _, _, _, _, _, _, _, _, _, _, _, _, _, _, _, _, _, _, _, rfl, rfl, G', w1, w2.1, g1, b3, ⟨s2' 0 (by omega), s2' 1 (by omega)⟩, b4, b5⟩
