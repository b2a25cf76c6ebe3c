variable {G : Nat → Nat → Nat} {regions balloons letters loft start seed count turnCount : Int32} {risk distance comeback capacity pigeons weight priority turnFrom turnTo follow land aimCount aim : Nat → Int32} {mLoft mStart mSeed : Int32} {mRegions mRisk mDistance mBack mWinds mNamed mNR mNW mTurns mTF mTT mTW mBalloons mRoom mPigeons mLetters mWeight mPriority : Nat → Int32}
variable {G0 : Nat → Nat → Nat}
section
variable {N e : Nat} {c m : Nat → Int32} {S Q K V : Nat → Nat} {st nx tk vv : Int32} {p : Nat}
theorem x_single {flag dm : Int32} {g d : Nat} (h : LX N e c m S Q K V) (he : e ≤ 900) (hp : p ≤ e) (ht : TM S Q K V p st nx tk vv) (hf : DF flag dm g d) (hg : g < 2 ^ 31) (kind value code number ea hi : Int32) :
    (flag = 0 ∧ K (Q p) = 2 ∧ nI (V (Q p)) ≤ hi ∧ f_X4_readNumber N (nI e) (nI (Q p)) kind value code c 0 hi = some (1, nI (S (Q p)), nI (Q (Q p)), 2, nI (V (Q p)), code) ∧ ∃ st' nx' tk' vv', TM S Q K V (Q (Q p)) st' nx' tk' vv' ∧ f_X9_single N (nI e) st nx tk vv 0 ea number m dm hi = some (nI (V (Q p)), st', nx', tk', vv', 0, ea, nI (V (Q p)))) ∨
    (flag = 0 ∧ ∃ ka v' nst nnx ntk nvv, ka ≠ 0 ∧ f_X4_readNumber N (nI e) (nI (Q p)) kind value code c 0 hi = some (0, nI (S (Q p)), nI (Q (Q p)), nI (K (Q p)), v', ka) ∧ f_X9_single N (nI e) st nx tk vv 0 ea number m dm hi = some (-1, nst, nnx, ntk, nvv, ka, nI (S (Q p)), number)) ∨
    (flag = 1 ∧ f_X9_single N (nI e) st nx tk vv 0 ea number m dm hi = some (-1, st, nx, tk, vv, 2, nI (S p), number)) := by
  obtain ⟨rfl, rfl, rfl, hv⟩ := ht
  have f3 := (h p hp).1.2.2.1
  unfold f_X9_single
  rcases hf with ⟨rfl, rfl, _⟩ | ⟨rfl, rfl⟩
  · obtain ⟨_, _, ⟨w, w1, w2⟩, _⟩ := h (Q p) f3
    rw [if_pos rfl, w1, z_ob4]
    rcases x_num h he f3 ⟨rfl, rfl, rfl, w2⟩ kind value code number ea 0 hi with ⟨k1, lo1, hi1, cr1, s1, n1, d1, u1, t2, mr1⟩ | ⟨ka, v', hka, _, cr, mr⟩
    · left
      rw [mr1, z_ob8, if_neg (by decide)]
      exact ⟨rfl, k1, hi1, cr1, s1, n1, d1, u1, t2, rfl⟩
    · right; left
      rw [mr, z_ob8, if_pos rfl]
      exact ⟨rfl, ka, v', _, _, _, _, hka, cr, rfl⟩
  · right; right
    unfold f_X9_fails
    rw [if_neg (show ¬ nI g = -2 by rw [z_m2 hg]; exact id), if_pos rfl, z_ob3]
    exact ⟨rfl, rfl⟩
theorem x_end {q : Nat} {a1 a2 a3 a4 a5 a6 a7 a8 a9 a10 a11 a12 a13 a14 a15 a16 a17 a18 : Nat → Int32} (h : LX N e c m S Q K V) (hq : q ≤ e) (ht : TM S Q K V q st nx tk vv) (sc vc code dl ds dd ea nu : Int32) :
    (K q = 3 ∧ ∃ v' w, f_X4_endStatement N sc (nI e) (nI q) 2 vc code c = some (1, nI (S q), nI (Q q), nI 3, v', code) ∧ f_X9_statement_j84 N (nI e) m dl ds dd st nx tk vv 0 ea nu a1 a2 a3 a4 a5 a6 a7 a8 a9 a10 a11 a12 a13 a14 a15 a16 a17 a18 1 = some (1, dl, ds, dd, nI (S (Q q)), nI (Q (Q q)), nI (K (Q q)), w, 0, ea, nu, a1, a2, a3, a4, a5, a6, a7, a8, a9, a10, a11, a12, a13, a14, a15, a16, a17, a18) ∧ TM S Q K V (Q q) (nI (S (Q q))) (nI (Q (Q q))) (nI (K (Q q))) w) ∨
    (K q ≠ 3 ∧ ∃ v', f_X4_endStatement N sc (nI e) (nI q) 2 vc code c = some (0, nI (S q), nI (Q q), nI (K q), v', 1) ∧ f_X9_statement_j84 N (nI e) m dl ds dd st nx tk vv 0 ea nu a1 a2 a3 a4 a5 a6 a7 a8 a9 a10 a11 a12 a13 a14 a15 a16 a17 a18 1 = some (0, dl, ds, dd, st, nx, tk, vv, 1, nI (S q), nu, a1, a2, a3, a4, a5, a6, a7, a8, a9, a10, a11, a12, a13, a14, a15, a16, a17, a18)) := by
  obtain ⟨⟨f1, f2, f3, f4, f5, f6⟩, fc, fm, fw⟩ := h q hq
  obtain ⟨v', t1, t2⟩ := fc 2 vc
  obtain ⟨rfl, rfl, rfl, hv⟩ := ht
  have e3 : (nI (K q) = 3) = (K q = 3) := z_eq (b := 3) (by omega) (by omega)
  unfold f_X4_endStatement f_X4_endStatement_j12 f_X9_statement_j84 f_X4_fail f_X9_fails
  rw [if_neg (show ¬ (2 : Int32) = 3 by decide), t1, z_ob4, if_neg (show ¬ (1 : Int32) = 0 by decide), if_pos (show (0 : Int32) = 0 from rfl)]
  simp only [e3]
  by_cases h3 : K q = 3
  · left
    obtain ⟨_, _, ⟨w, w1, w2⟩, _⟩ := h (Q q) f3
    rw [if_pos h3, if_pos h3, w1, z_ob4, h3]
    exact ⟨rfl, v', w, rfl, rfl, rfl, rfl, rfl, w2⟩
  · right
    rw [if_neg h3, if_neg h3, z_ob2, z_ob3, if_pos rfl]
    exact ⟨h3, v', rfl, rfl⟩
theorem WF_loft {v : Nat} (hG : WF G) (hv : v ≤ 40) : WF (gU G 0 5 v) := by
  obtain ⟨⟨g0, g1, g2, g3, g4, g5, g6, g7⟩, gr, ⟨gna, gn1, gn2, gn3⟩, ⟨gt1, gt2, gt3⟩, gb, gl⟩ := hG
  exact ⟨⟨g0, g1, g2, g3, g4, hv, g6, g7⟩, gr, ⟨gna, gn1, gn2, gn3⟩, ⟨gt1, gt2, gt3⟩, gb, gl⟩
theorem DC_loft {v : Nat} (hc : DC G regions balloons letters loft start seed count turnCount risk distance comeback capacity pigeons weight priority turnFrom turnTo follow land aimCount aim) : DC (gU G 0 5 v) regions balloons letters (nI v) start seed count turnCount risk distance comeback capacity pigeons weight priority turnFrom turnTo follow land aimCount aim := by
  obtain ⟨⟨⟨c1, c2, c3, c4, c5, c6, c7, c8⟩, cr, cb, cl, ct, cf, cla, cac, cai⟩, cx⟩ := hc
  exact ⟨⟨⟨c1, c2, c3, rfl, c5, c6, c7, c8⟩, cr, cb, cl, ct, cf, cla, cac, cai⟩, cx⟩
theorem DM_loft {v : Nat} (hm : DM G mRegions mRisk mDistance mBack mWinds mNamed mNR mNW mTurns mTF mTT mTW mBalloons mRoom mPigeons mLetters mWeight mPriority) : DM (gU G 0 5 v) mRegions mRisk mDistance mBack mWinds mNamed mNR mNW mTurns mTF mTT mTW mBalloons mRoom mPigeons mLetters mWeight mPriority := by
  obtain ⟨⟨m0, m1, m2, m3, m4⟩, mr, mb, ml, mt, mna, mnr⟩ := hm
  exact ⟨⟨m0, m1, m2, m3, m4⟩, mr, mb, ml, mt, mna, mnr⟩
theorem WF_start {v : Nat} (hG : WF G) (hv : v < G 0 1) : WF (gU G 0 6 v) := by
  obtain ⟨⟨g0, g1, g2, g3, g4, g5, g6, g7⟩, gr, ⟨gna, gn1, gn2, gn3⟩, ⟨gt1, gt2, gt3⟩, gb, gl⟩ := hG
  exact ⟨⟨g0, g1, g2, g3, g4, g5, Or.inl hv, g7⟩, gr, ⟨gna, gn1, gn2, gn3⟩, ⟨gt1, gt2, gt3⟩, gb, gl⟩
theorem DC_start {v : Nat} (hc : DC G regions balloons letters loft start seed count turnCount risk distance comeback capacity pigeons weight priority turnFrom turnTo follow land aimCount aim) : DC (gU G 0 6 v) regions balloons letters loft (nI v) seed count turnCount risk distance comeback capacity pigeons weight priority turnFrom turnTo follow land aimCount aim := by
  obtain ⟨⟨⟨c1, c2, c3, c4, c5, c6, c7, c8⟩, cr, cb, cl, ct, cf, cla, cac, cai⟩, cx⟩ := hc
  exact ⟨⟨⟨c1, c2, c3, c4, rfl, c6, c7, c8⟩, cr, cb, cl, ct, cf, cla, cac, cai⟩, cx⟩
theorem DM_start {v : Nat} (hm : DM G mRegions mRisk mDistance mBack mWinds mNamed mNR mNW mTurns mTF mTT mTW mBalloons mRoom mPigeons mLetters mWeight mPriority) : DM (gU G 0 6 v) mRegions mRisk mDistance mBack mWinds mNamed mNR mNW mTurns mTF mTT mTW mBalloons mRoom mPigeons mLetters mWeight mPriority := by
  obtain ⟨⟨m0, m1, m2, m3, m4⟩, mr, mb, ml, mt, mna, mnr⟩ := hm
  exact ⟨⟨m0, m1, m2, m3, m4⟩, mr, mb, ml, mt, mna, mnr⟩
theorem WF_seed {v : Nat} (hG : WF G) (hv : v ≤ 9999) : WF (gU G 0 7 v) := by
  obtain ⟨⟨g0, g1, g2, g3, g4, g5, g6, g7⟩, gr, ⟨gna, gn1, gn2, gn3⟩, ⟨gt1, gt2, gt3⟩, gb, gl⟩ := hG
  exact ⟨⟨g0, g1, g2, g3, g4, g5, g6, hv⟩, gr, ⟨gna, gn1, gn2, gn3⟩, ⟨gt1, gt2, gt3⟩, gb, gl⟩
theorem DC_seed {v : Nat} (hc : DC G regions balloons letters loft start seed count turnCount risk distance comeback capacity pigeons weight priority turnFrom turnTo follow land aimCount aim) : DC (gU G 0 7 v) regions balloons letters loft start (nI v) count turnCount risk distance comeback capacity pigeons weight priority turnFrom turnTo follow land aimCount aim := by
  obtain ⟨⟨⟨c1, c2, c3, c4, c5, c6, c7, c8⟩, cr, cb, cl, ct, cf, cla, cac, cai⟩, cx⟩ := hc
  exact ⟨⟨⟨c1, c2, c3, c4, c5, rfl, c7, c8⟩, cr, cb, cl, ct, cf, cla, cac, cai⟩, cx⟩
theorem DM_seed {v : Nat} (hm : DM G mRegions mRisk mDistance mBack mWinds mNamed mNR mNW mTurns mTF mTT mTW mBalloons mRoom mPigeons mLetters mWeight mPriority) : DM (gU G 0 7 v) mRegions mRisk mDistance mBack mWinds mNamed mNR mNW mTurns mTF mTT mTW mBalloons mRoom mPigeons mLetters mWeight mPriority := by
  obtain ⟨⟨m0, m1, m2, m3, m4⟩, mr, mb, ml, mt, mna, mnr⟩ := hm
  exact ⟨⟨m0, m1, m2, m3, m4⟩, mr, mb, ml, mt, mna, mnr⟩
theorem x_stmt {lr sr er dl ds dd : Int32} (hN : 3000 < N) (he : e ≤ 900) (hL : LX N e c m S Q K V) (hG0 : WF G0) (hG : WF G) (hc : DC G regions balloons letters loft start seed count turnCount risk distance comeback capacity pigeons weight priority turnFrom turnTo follow land aimCount aim) (hm : DM G mRegions mRisk mDistance mBack mWinds mNamed mNR mNW mTurns mTF mTT mTW mBalloons mRoom mPigeons mLetters mWeight mPriority) (h0 : RGm G0 mLoft mStart mSeed mRegions mRisk mDistance mBack mWinds mNamed mNR mNW mTurns mTF mTT mTW mBalloons mRoom mPigeons mLetters mWeight mPriority) (hf1 : DF lr dl (G 0 5) 8) (hf2 : DF sr ds (G 0 6) 0) (hf3 : DF er dd (G 0 7) 1) (hp : p ≤ e) (ht : TM S Q K V p st nx tk vv) (value code number ea : Int32) :
    (∃ ka cs cp ck cv lr' sr' er' d1 d2 d3 ms mn mt mv nu x1 x2 x3 x4 x5 x6 x7 x8 x9 x10 x11 x12 x13 x14 x15 x16 x17 x18 x19 x20 x21 y1 y2 y3 y4 y5 y6 y7 y8 y9 y10 y11 y12 y13 y14 y15 y16 y17 y18, ka ≠ 0 ∧ f_X4_readStatement N (nI (S p)) (nI e) (nI (Q p)) (nI (K p)) value code lr sr er c regions balloons letters loft start seed risk distance comeback count turnCount follow land aimCount aim turnFrom turnTo capacity pigeons weight priority = some (0, cs, cp, ck, cv, ka, lr', sr', er', x1, x2, x3, x4, x5, x6, x7, x8, x9, x10, x11, x12, x13, x14, x15, x16, x17, x18, x19, x20, x21) ∧ f_X9_statement N dl ds dd (nI e) st nx tk vv 0 ea number m mRegions mRisk mDistance mBack mWinds mNR mNW mNamed mTurns mTF mTT mTW mBalloons mRoom mPigeons mLetters mWeight mPriority = some (0, d1, d2, d3, ms, mn, mt, mv, ka, cs, nu, y1, y2, y3, y4, y5, y6, y7, y8, y9, y10, y11, y12, y13, y14, y15, y16, y17, y18) ∧ RGm G0 mLoft mStart mSeed y1 y2 y3 y4 y5 y8 y6 y7 y9 y10 y11 y12 y13 y14 y15 y16 y17 y18) ∨
    (∃ ka cs cp ck cv cc lr' sr' er' s2 p2 k2 v2 d1 d2 d3 ms mn mt mv nu x1 x2 x3 x4 x5 x6 x7 x8 x9 x10 x11 x12 x13 x14 x15 x16 x17 x18 x19 x20 x21 y1 y2 y3 y4 y5 y6 y7 y8 y9 y10 y11 y12 y13 y14 y15 y16 y17 y18, ka ≠ 0 ∧ f_X4_readStatement N (nI (S p)) (nI e) (nI (Q p)) (nI (K p)) value code lr sr er c regions balloons letters loft start seed risk distance comeback count turnCount follow land aimCount aim turnFrom turnTo capacity pigeons weight priority = some (1, cs, cp, ck, cv, cc, lr', sr', er', x1, x2, x3, x4, x5, x6, x7, x8, x9, x10, x11, x12, x13, x14, x15, x16, x17, x18, x19, x20, x21) ∧ f_X4_endStatement N cs (nI e) cp ck cv cc c = some (0, s2, p2, k2, v2, ka) ∧ f_X9_statement N dl ds dd (nI e) st nx tk vv 0 ea number m mRegions mRisk mDistance mBack mWinds mNR mNW mNamed mTurns mTF mTT mTW mBalloons mRoom mPigeons mLetters mWeight mPriority = some (0, d1, d2, d3, ms, mn, mt, mv, ka, s2, nu, y1, y2, y3, y4, y5, y6, y7, y8, y9, y10, y11, y12, y13, y14, y15, y16, y17, y18) ∧ RGm G0 mLoft mStart mSeed y1 y2 y3 y4 y5 y8 y6 y7 y9 y10 y11 y12 y13 y14 y15 y16 y17 y18) ∨
    (∃ q cs cp ck cv cc lr' sr' er' s2 k2 v2 d1 d2 d3 ms mn mt mv nu x1 x2 x3 x4 x5 x6 x7 x8 x9 x10 x11 x12 x13 x14 x15 x16 x17 x18 x19 x20 x21 y1 y2 y3 y4 y5 y6 y7 y8 y9 y10 y11 y12 y13 y14 y15 y16 y17 y18, p < q ∧ q ≤ e ∧ f_X4_readStatement N (nI (S p)) (nI e) (nI (Q p)) (nI (K p)) value code lr sr er c regions balloons letters loft start seed risk distance comeback count turnCount follow land aimCount aim turnFrom turnTo capacity pigeons weight priority = some (1, cs, cp, ck, cv, cc, lr', sr', er', x1, x2, x3, x4, x5, x6, x7, x8, x9, x10, x11, x12, x13, x14, x15, x16, x17, x18, x19, x20, x21) ∧ f_X4_endStatement N cs (nI e) cp ck cv cc c = some (1, s2, nI q, k2, v2, code) ∧ f_X9_statement N dl ds dd (nI e) st nx tk vv 0 ea number m mRegions mRisk mDistance mBack mWinds mNR mNW mNamed mTurns mTF mTT mTW mBalloons mRoom mPigeons mLetters mWeight mPriority = some (1, d1, d2, d3, ms, mn, mt, mv, 0, ea, nu, y1, y2, y3, y4, y5, y6, y7, y8, y9, y10, y11, y12, y13, y14, y15, y16, y17, y18) ∧ TM S Q K V q ms mn mt mv ∧ RGm G0 mLoft mStart mSeed y1 y2 y3 y4 y5 y8 y6 y7 y9 y10 y11 y12 y13 y14 y15 y16 y17 y18 ∧ ∃ G', WF G' ∧ DC G' x1 x2 x3 x4 x5 x6 x10 x11 x7 x8 x9 x18 x19 x20 x21 x16 x17 x12 x13 x14 x15 ∧ DM G' y1 y2 y3 y4 y5 y8 y6 y7 y9 y10 y11 y12 y13 y14 y15 y16 y17 y18 ∧ DF lr' d1 (G' 0 5) 8 ∧ DF sr' d2 (G' 0 6) 0 ∧ DF er' d3 (G' 0 7) 1) := by
  obtain ⟨⟨f1, f2, f3, f4, f5, f6⟩, fc, fm, fw⟩ := hL p hp
  obtain ⟨hs1, hs2, hs3, hs4⟩ := id ht
  obtain ⟨⟨g0, g1, g2, g3, g4, g5, g6, g7⟩, _⟩ := id hG
  have e1 : (nI (K p) = 1) = (K p = 1) := z_eq (b := 1) (by omega) (by omega)
  obtain ⟨b0, hb0, wc0, wm0⟩ := fw 0 (by omega)
  rw [← hs1, ← hs2, ← hs3] at wm0
  obtain ⟨b1, hb1, wc1, wm1⟩ := fw 1 (by omega)
  rw [← hs1, ← hs2, ← hs3] at wm1
  obtain ⟨b2, hb2, wc2, wm2⟩ := fw 2 (by omega)
  rw [← hs1, ← hs2, ← hs3] at wm2
  obtain ⟨b3, hb3, wc3, wm3⟩ := fw 3 (by omega)
  rw [← hs1, ← hs2, ← hs3] at wm3
  obtain ⟨b4, hb4, wc4, wm4⟩ := fw 4 (by omega)
  rw [← hs1, ← hs2, ← hs3] at wm4
  obtain ⟨b5, hb5, wc5, wm5⟩ := fw 5 (by omega)
  rw [← hs1, ← hs2, ← hs3] at wm5
  obtain ⟨b6, hb6, wc6, wm6⟩ := fw 6 (by omega)
  rw [← hs1, ← hs2, ← hs3] at wm6
  obtain ⟨b7, hb7, wc7, wm7⟩ := fw 7 (by omega)
  rw [← hs1, ← hs2, ← hs3] at wm7
  unfold f_X4_readStatement f_X9_statement
  by_cases h1 : K p = 1
  · replace wc0 := wc0 h1
    rw [if_pos h1] at wm0
    replace wc1 := wc1 h1
    rw [if_pos h1] at wm1
    replace wc2 := wc2 h1
    rw [if_pos h1] at wm2
    replace wc3 := wc3 h1
    rw [if_pos h1] at wm3
    replace wc4 := wc4 h1
    rw [if_pos h1] at wm4
    replace wc5 := wc5 h1
    rw [if_pos h1] at wm5
    replace wc6 := wc6 h1
    rw [if_pos h1] at wm6
    replace wc7 := wc7 h1
    rw [if_pos h1] at wm7
    rw [if_pos (show nI (K p) = 1 by rw [e1]; exact h1)]
    rw [wc0, z_ob1, wm0, z_ob1]
    rcases hb0 with rfl | rfl
    rotate_left
    · rw [if_neg (show ¬ (1 : Int32) = 0 by decide), if_neg (show ¬ (1 : Int32) = 0 by decide)]
      rcases l_region (N := N) (G0 := G0) hN he hL hG0 hG hc hm h0 hp ht (nI (K p)) value code number ea with ⟨ka, sc, pc, kc, vc, nu, nst, nnx, ntk, nvv, u1, u2, u3, u4, z1, z2, z3, z4, hka, cr, mr, hg⟩ | ⟨q, sc, vc, nu, nst, nnx, ntk, nvv, u1, u2, u3, u4, z1, z2, z3, z4, hpq, hqe, cr, mr, tm, hg, G', w1, w2, w3, w4, w5, w6, w7⟩
      · left
        unfold f_X9_statement_j84
        rw [cr, z_ob10, mr, z_ob12, if_pos rfl]
        exact ⟨ka, _, _, _, _, _, _, _, _, _, _, _, _, _, _, _, _, _, _, _, _, _, _, _, _, _, _, _, _, _, _, _, _, _, _, _, _, _, _, _, _, _, _, _, _, _, _, _, _, _, _, _, _, _, _, hka, rfl, rfl, hg⟩
      · rw [cr, z_ob10, mr, z_ob12]
        rcases x_end (N := N) hL hqe tm sc vc code dl ds dd ea nu with ⟨k3, v', w, en, mo, tq⟩ | ⟨k3, v', en, mo⟩
        · right; right
          obtain ⟨⟨f1q, f2q, f3q, f4q, f5q, f6q⟩, _⟩ := hL q hqe
          rw [mo]
          exact ⟨Q q, _, _, _, _, _, _, _, _, _, _, _, _, _, _, _, _, _, _, _, _, _, _, _, _, _, _, _, _, _, _, _, _, _, _, _, _, _, _, _, _, _, _, _, _, _, _, _, _, _, _, _, _, _, _, _, _, _, _, by have := f5q (by omega); omega, f3q, rfl, en, rfl, tq, hg, G', w1, w2, w3, by rw [w4]; exact hf1, by rw [w5]; exact hf2, by rw [w6]; exact hf3⟩
        · right; left
          rw [mo]
          exact ⟨1, _, _, _, _, _, _, _, _, _, _, _, _, _, _, _, _, _, _, _, _, _, _, _, _, _, _, _, _, _, _, _, _, _, _, _, _, _, _, _, _, _, _, _, _, _, _, _, _, _, _, _, _, _, _, _, _, _, _, _, by decide, rfl, en, rfl, hg⟩
    rw [if_pos (show (0 : Int32) = 0 from rfl), if_pos (show (0 : Int32) = 0 from rfl)]
    rw [wc1, z_ob1, wm1, z_ob1]
    rcases hb1 with rfl | rfl
    rotate_left
    · rw [if_neg (show ¬ (1 : Int32) = 0 by decide), if_neg (show ¬ (1 : Int32) = 0 by decide)]
      rcases l_wind (N := N) (G0 := G0) hN he hL hG0 hG hc hm h0 hp ht (nI (K p)) value code number ea with ⟨ka, sc, pc, kc, vc, nu, nst, nnx, ntk, nvv, u1, u2, u3, u4, u5, z1, z2, z3, z4, hka, cr, mr, hg⟩ | ⟨sc, pc, kc, vc, nu, nnx, kt, nvv, u1, u2, u3, u4, u5, z1, z2, z3, z4, hk3, hk4, cr, mr, hg⟩ | ⟨q, vc, nu, nst, nnx, ntk, nvv, u1, u2, u3, u4, u5, z1, z2, z3, z4, hpq, hqe, k3, cr, mr, tm, hg, G', w1, w2, w3, w4, w5, w6, w7⟩
      · left
        unfold f_X9_statement_j84
        rw [cr, z_ob11, mr, z_ob12, if_pos rfl]
        exact ⟨ka, _, _, _, _, _, _, _, _, _, _, _, _, _, _, _, _, _, _, _, _, _, _, _, _, _, _, _, _, _, _, _, _, _, _, _, _, _, _, _, _, _, _, _, _, _, _, _, _, _, _, _, _, _, _, hka, rfl, rfl, hg⟩
      · left
        unfold f_X9_statement_j84 f_X9_fails
        rw [cr, z_ob11, mr, z_ob12, if_neg (show ¬ (1 : Int32) = 0 by decide), if_neg (show ¬ nI kt = 3 by rw [show (nI kt = 3) = (kt = 3) from z_eq (b := 3) (by omega) (by omega)]; exact hk3), if_pos rfl, z_ob3]
        exact ⟨1, _, _, _, _, _, _, _, _, _, _, _, _, _, _, _, _, _, _, _, _, _, _, _, _, _, _, _, _, _, _, _, _, _, _, _, _, _, _, _, _, _, _, _, _, _, _, _, _, _, _, _, _, _, _, by decide, rfl, rfl, hg⟩
      · right; right
        obtain ⟨⟨f1q, f2q, f3q, f4q, f5q, f6q⟩, _⟩ := hL q hqe
        obtain ⟨_, _, ⟨w, q1, q2⟩, _⟩ := hL (Q q) f3q
        obtain ⟨ta, tb, tc, td⟩ := tm
        unfold f_X9_statement_j84
        rw [cr, z_ob11, mr, z_ob12, if_neg (show ¬ (1 : Int32) = 0 by decide), tc, k3, if_pos (show nI 3 = 3 from rfl), tb, q1, z_ob4]
        refine ⟨Q q, _, _, _, _, _, _, _, _, nI (S q), nI 3, vc, _, _, _, _, _, _, _, _, _, _, _, _, _, _, _, _, _, _, _, _, _, _, _, _, _, _, _, _, _, _, _, _, _, _, _, _, _, _, _, _, _, _, _, _, _, _, _, ?_, f3q, rfl, ?_, rfl, ⟨rfl, rfl, rfl, q2⟩, hg, G', w1, w2, w3, by rw [w4]; exact hf1, by rw [w5]; exact hf2, by rw [w6]; exact hf3⟩
        · have := f5q (by omega); omega
        · unfold f_X4_endStatement f_X4_endStatement_j12
          rw [if_pos (show nI 3 = 3 from rfl), if_pos (show nI 3 = 3 from rfl)]
    rw [if_pos (show (0 : Int32) = 0 from rfl), if_pos (show (0 : Int32) = 0 from rfl)]
    rw [wc2, z_ob1, wm2, z_ob1]
    rcases hb2 with rfl | rfl
    rotate_left
    · rw [if_neg (show ¬ (1 : Int32) = 0 by decide), if_neg (show ¬ (1 : Int32) = 0 by decide)]
      rcases l_turn (N := N) (G0 := G0) hN he hL hG0 hG hc hm h0 hp ht (nI (K p)) value code number ea with ⟨ka, sc, pc, kc, vc, nu, nst, nnx, ntk, nvv, u1, u2, u3, u4, z1, z2, z3, z4, hka, cr, mr, hg⟩ | ⟨q, sc, vc, nu, nst, nnx, ntk, nvv, u1, u2, u3, u4, z1, z2, z3, z4, hpq, hqe, cr, mr, tm, hg, G', w1, w2, w3, w4, w5, w6, w7⟩
      · left
        unfold f_X9_statement_j84
        rw [cr, z_ob10, mr, z_ob12, if_pos rfl]
        exact ⟨ka, _, _, _, _, _, _, _, _, _, _, _, _, _, _, _, _, _, _, _, _, _, _, _, _, _, _, _, _, _, _, _, _, _, _, _, _, _, _, _, _, _, _, _, _, _, _, _, _, _, _, _, _, _, _, hka, rfl, rfl, hg⟩
      · rw [cr, z_ob10, mr, z_ob12]
        rcases x_end (N := N) hL hqe tm sc vc code dl ds dd ea nu with ⟨k3, v', w, en, mo, tq⟩ | ⟨k3, v', en, mo⟩
        · right; right
          obtain ⟨⟨f1q, f2q, f3q, f4q, f5q, f6q⟩, _⟩ := hL q hqe
          rw [mo]
          exact ⟨Q q, _, _, _, _, _, _, _, _, _, _, _, _, _, _, _, _, _, _, _, _, _, _, _, _, _, _, _, _, _, _, _, _, _, _, _, _, _, _, _, _, _, _, _, _, _, _, _, _, _, _, _, _, _, _, _, _, _, _, by have := f5q (by omega); omega, f3q, rfl, en, rfl, tq, hg, G', w1, w2, w3, by rw [w4]; exact hf1, by rw [w5]; exact hf2, by rw [w6]; exact hf3⟩
        · right; left
          rw [mo]
          exact ⟨1, _, _, _, _, _, _, _, _, _, _, _, _, _, _, _, _, _, _, _, _, _, _, _, _, _, _, _, _, _, _, _, _, _, _, _, _, _, _, _, _, _, _, _, _, _, _, _, _, _, _, _, _, _, _, _, _, _, _, _, by decide, rfl, en, rfl, hg⟩
    rw [if_pos (show (0 : Int32) = 0 from rfl), if_pos (show (0 : Int32) = 0 from rfl)]
    rw [wc3, z_ob1, wm3, z_ob1]
    rcases hb3 with rfl | rfl
    rotate_left
    · rw [if_neg (show ¬ (1 : Int32) = 0 by decide), if_neg (show ¬ (1 : Int32) = 0 by decide)]
      rcases l_balloon (N := N) (G0 := G0) hN he hL hG0 hG hc hm h0 hp ht (nI (K p)) value code number ea with ⟨ka, sc, pc, kc, vc, nu, nst, nnx, ntk, nvv, u1, u2, u3, z1, z2, z3, hka, cr, mr, hg⟩ | ⟨q, sc, vc, nu, nst, nnx, ntk, nvv, u1, u2, u3, z1, z2, z3, hpq, hqe, cr, mr, tm, hg, G', w1, w2, w3, w4, w5, w6, w7⟩
      · left
        unfold f_X9_statement_j84
        rw [cr, z_ob9, mr, z_ob11, if_pos rfl]
        exact ⟨ka, _, _, _, _, _, _, _, _, _, _, _, _, _, _, _, _, _, _, _, _, _, _, _, _, _, _, _, _, _, _, _, _, _, _, _, _, _, _, _, _, _, _, _, _, _, _, _, _, _, _, _, _, _, _, hka, rfl, rfl, hg⟩
      · rw [cr, z_ob9, mr, z_ob11]
        rcases x_end (N := N) hL hqe tm sc vc code dl ds dd ea nu with ⟨k3, v', w, en, mo, tq⟩ | ⟨k3, v', en, mo⟩
        · right; right
          obtain ⟨⟨f1q, f2q, f3q, f4q, f5q, f6q⟩, _⟩ := hL q hqe
          rw [mo]
          exact ⟨Q q, _, _, _, _, _, _, _, _, _, _, _, _, _, _, _, _, _, _, _, _, _, _, _, _, _, _, _, _, _, _, _, _, _, _, _, _, _, _, _, _, _, _, _, _, _, _, _, _, _, _, _, _, _, _, _, _, _, _, by have := f5q (by omega); omega, f3q, rfl, en, rfl, tq, hg, G', w1, w2, w3, by rw [w4]; exact hf1, by rw [w5]; exact hf2, by rw [w6]; exact hf3⟩
        · right; left
          rw [mo]
          exact ⟨1, _, _, _, _, _, _, _, _, _, _, _, _, _, _, _, _, _, _, _, _, _, _, _, _, _, _, _, _, _, _, _, _, _, _, _, _, _, _, _, _, _, _, _, _, _, _, _, _, _, _, _, _, _, _, _, _, _, _, _, by decide, rfl, en, rfl, hg⟩
    rw [if_pos (show (0 : Int32) = 0 from rfl), if_pos (show (0 : Int32) = 0 from rfl)]
    rw [wc4, z_ob1, wm4, z_ob1]
    rcases hb4 with rfl | rfl
    rotate_left
    · rw [if_neg (show ¬ (1 : Int32) = 0 by decide), if_neg (show ¬ (1 : Int32) = 0 by decide)]
      rcases l_letter (N := N) (G0 := G0) hN he hL hG0 hG hc hm h0 hp ht (nI (K p)) value code number ea with ⟨ka, sc, pc, kc, vc, nu, nst, nnx, ntk, nvv, u1, u2, u3, z1, z2, z3, hka, cr, mr, hg⟩ | ⟨q, sc, vc, nu, nst, nnx, ntk, nvv, u1, u2, u3, z1, z2, z3, hpq, hqe, cr, mr, tm, hg, G', w1, w2, w3, w4, w5, w6, w7⟩
      · left
        unfold f_X9_statement_j84
        rw [cr, z_ob9, mr, z_ob11, if_pos rfl]
        exact ⟨ka, _, _, _, _, _, _, _, _, _, _, _, _, _, _, _, _, _, _, _, _, _, _, _, _, _, _, _, _, _, _, _, _, _, _, _, _, _, _, _, _, _, _, _, _, _, _, _, _, _, _, _, _, _, _, hka, rfl, rfl, hg⟩
      · rw [cr, z_ob9, mr, z_ob11]
        rcases x_end (N := N) hL hqe tm sc vc code dl ds dd ea nu with ⟨k3, v', w, en, mo, tq⟩ | ⟨k3, v', en, mo⟩
        · right; right
          obtain ⟨⟨f1q, f2q, f3q, f4q, f5q, f6q⟩, _⟩ := hL q hqe
          rw [mo]
          exact ⟨Q q, _, _, _, _, _, _, _, _, _, _, _, _, _, _, _, _, _, _, _, _, _, _, _, _, _, _, _, _, _, _, _, _, _, _, _, _, _, _, _, _, _, _, _, _, _, _, _, _, _, _, _, _, _, _, _, _, _, _, by have := f5q (by omega); omega, f3q, rfl, en, rfl, tq, hg, G', w1, w2, w3, by rw [w4]; exact hf1, by rw [w5]; exact hf2, by rw [w6]; exact hf3⟩
        · right; left
          rw [mo]
          exact ⟨1, _, _, _, _, _, _, _, _, _, _, _, _, _, _, _, _, _, _, _, _, _, _, _, _, _, _, _, _, _, _, _, _, _, _, _, _, _, _, _, _, _, _, _, _, _, _, _, _, _, _, _, _, _, _, _, _, _, _, _, by decide, rfl, en, rfl, hg⟩
    rw [if_pos (show (0 : Int32) = 0 from rfl), if_pos (show (0 : Int32) = 0 from rfl)]
    unfold f_X9_otherLine
    rw [wc5, z_ob1, wm5, z_ob1]
    rcases hb5 with rfl | rfl
    rotate_left
    · rw [if_neg (show ¬ (1 : Int32) = 0 by decide), if_neg (show ¬ (1 : Int32) = 0 by decide)]
      unfold f_X4_readLoft
      rcases x_single (N := N) hL he hp ht hf1 (by omega) (nI (K p)) value code number ea 40 with ⟨hfl, k2, hi2, cr, nst, nnx, ntk, nvv, tm, mr⟩ | ⟨hfl, ka, v', nst, nnx, ntk, nvv, hka, cr, mr⟩ | ⟨hfl, mr⟩
      · obtain ⟨⟨f1a, f2a, f3a, f4a, f5a, f6a⟩, _⟩ := hL (Q p) f3
        have v9 := f6a k2
        have hv : V (Q p) ≤ 40 := b_le (k := 40) (by omega) (by omega) hi2
        rw [if_pos hfl, cr, z_ob6, if_neg (show ¬ (1 : Int32) = 0 by decide), z_ob8, mr, z_ob8, if_neg (show ¬ nI (V (Q p)) < 0 from nI_pos (by omega)), z_ob11]
        rcases x_end (N := N) hL f3a tm (nI (S (Q p))) (nI (V (Q p))) code (nI (V (Q p))) ds dd ea (nI (V (Q p))) with ⟨k3, v', w, en, mo, tq⟩ | ⟨k3, v', en, mo⟩
        · right; right
          obtain ⟨⟨f1q, f2q, f3q, f4q, f5q, f6q⟩, _⟩ := hL (Q (Q p)) f3a
          rw [mo]
          exact ⟨Q (Q (Q p)), _, _, _, _, _, _, _, _, _, _, _, _, _, _, _, _, _, _, _, _, _, _, _, _, _, _, _, _, _, _, _, _, _, _, _, _, _, _, _, _, _, _, _, _, _, _, _, _, _, _, _, _, _, _, _, _, _, _, by have := f5q (by omega); omega, f3q, rfl, en, rfl, tq, h0, gU G 0 5 (V (Q p)), WF_loft hG hv, DC_loft hc, DM_loft hm, Or.inr ⟨rfl, rfl⟩, hf2, hf3⟩
        · right; left
          rw [mo]
          exact ⟨1, _, _, _, _, _, _, _, _, _, _, _, _, _, _, _, _, _, _, _, _, _, _, _, _, _, _, _, _, _, _, _, _, _, _, _, _, _, _, _, _, _, _, _, _, _, _, _, _, _, _, _, _, _, _, _, _, _, _, _, by decide, rfl, en, rfl, h0⟩
      · left
        unfold f_X9_statement_j84
        rw [if_pos hfl, cr, z_ob6, if_pos rfl, z_ob8, mr, z_ob8, if_pos (show (-1 : Int32) < 0 by decide), z_ob11, if_pos rfl]
        exact ⟨ka, _, _, _, _, _, _, _, _, _, _, _, _, _, _, _, _, _, _, _, _, _, _, _, _, _, _, _, _, _, _, _, _, _, _, _, _, _, _, _, _, _, _, _, _, _, _, _, _, _, _, _, _, _, _, hka, rfl, rfl, h0⟩
      · left
        unfold f_X9_statement_j84 f_X4_fail
        rw [if_neg (show ¬ lr = 0 by rw [hfl]; decide), z_ob2, z_ob8, mr, z_ob8, if_pos (show (-1 : Int32) < 0 by decide), z_ob11, if_pos rfl]
        exact ⟨2, _, _, _, _, _, _, _, _, _, _, _, _, _, _, _, _, _, _, _, _, _, _, _, _, _, _, _, _, _, _, _, _, _, _, _, _, _, _, _, _, _, _, _, _, _, _, _, _, _, _, _, _, _, _, by decide, rfl, rfl, h0⟩
    rw [if_pos (show (0 : Int32) = 0 from rfl), if_pos (show (0 : Int32) = 0 from rfl)]
    rw [wc6, z_ob1, wm6, z_ob1]
    rcases hb6 with rfl | rfl
    rotate_left
    · rw [if_neg (show ¬ (1 : Int32) = 0 by decide), if_neg (show ¬ (1 : Int32) = 0 by decide)]
      unfold f_X4_readStart
      rw [z_gI1, z_c1, hm.1.2.1, show (count : Int32) = nI (G 0 1) from hc.1.1.2.2.2.2.2.2.1]
      have hc2 := hc
      rw [show (count : Int32) = nI (G 0 1) from hc.1.1.2.2.2.2.2.2.1] at hc2
      rcases x_single (N := N) hL he hp ht hf2 (by omega) (nI (K p)) value code number ea (nI (G 0 1) - 1) with ⟨hfl, k2, hi2, cr, nst, nnx, ntk, nvv, tm, mr⟩ | ⟨hfl, ka, v', nst, nnx, ntk, nvv, hka, cr, mr⟩ | ⟨hfl, mr⟩
      · obtain ⟨⟨f1a, f2a, f3a, f4a, f5a, f6a⟩, _⟩ := hL (Q p) f3
        have v9 := f6a k2
        have hv : V (Q p) < G 0 1 := b_lt (by omega) (by omega) hi2
        rw [if_pos hfl, cr, z_ob6, if_neg (show ¬ (1 : Int32) = 0 by decide), z_ob8, mr, z_ob8, if_neg (show ¬ nI (V (Q p)) < 0 from nI_pos (by omega)), z_ob11]
        rcases x_end (N := N) hL f3a tm (nI (S (Q p))) (nI (V (Q p))) code dl (nI (V (Q p))) dd ea (nI (V (Q p))) with ⟨k3, v', w, en, mo, tq⟩ | ⟨k3, v', en, mo⟩
        · right; right
          obtain ⟨⟨f1q, f2q, f3q, f4q, f5q, f6q⟩, _⟩ := hL (Q (Q p)) f3a
          rw [mo]
          exact ⟨Q (Q (Q p)), _, _, _, _, _, _, _, _, _, _, _, _, _, _, _, _, _, _, _, _, _, _, _, _, _, _, _, _, _, _, _, _, _, _, _, _, _, _, _, _, _, _, _, _, _, _, _, _, _, _, _, _, _, _, _, _, _, _, by have := f5q (by omega); omega, f3q, rfl, en, rfl, tq, h0, gU G 0 6 (V (Q p)), WF_start hG hv, DC_start hc2, DM_start hm, hf1, Or.inr ⟨rfl, rfl⟩, hf3⟩
        · right; left
          rw [mo]
          exact ⟨1, _, _, _, _, _, _, _, _, _, _, _, _, _, _, _, _, _, _, _, _, _, _, _, _, _, _, _, _, _, _, _, _, _, _, _, _, _, _, _, _, _, _, _, _, _, _, _, _, _, _, _, _, _, _, _, _, _, _, _, by decide, rfl, en, rfl, h0⟩
      · left
        unfold f_X9_statement_j84
        rw [if_pos hfl, cr, z_ob6, if_pos rfl, z_ob8, mr, z_ob8, if_pos (show (-1 : Int32) < 0 by decide), z_ob11, if_pos rfl]
        exact ⟨ka, _, _, _, _, _, _, _, _, _, _, _, _, _, _, _, _, _, _, _, _, _, _, _, _, _, _, _, _, _, _, _, _, _, _, _, _, _, _, _, _, _, _, _, _, _, _, _, _, _, _, _, _, _, _, hka, rfl, rfl, h0⟩
      · left
        unfold f_X9_statement_j84 f_X4_fail
        rw [if_neg (show ¬ sr = 0 by rw [hfl]; decide), z_ob2, z_ob8, mr, z_ob8, if_pos (show (-1 : Int32) < 0 by decide), z_ob11, if_pos rfl]
        exact ⟨2, _, _, _, _, _, _, _, _, _, _, _, _, _, _, _, _, _, _, _, _, _, _, _, _, _, _, _, _, _, _, _, _, _, _, _, _, _, _, _, _, _, _, _, _, _, _, _, _, _, _, _, _, _, _, by decide, rfl, rfl, h0⟩
    rw [if_pos (show (0 : Int32) = 0 from rfl), if_pos (show (0 : Int32) = 0 from rfl)]
    rw [wc7, z_ob1, wm7, z_ob1]
    rcases hb7 with rfl | rfl
    rotate_left
    · rw [if_neg (show ¬ (1 : Int32) = 0 by decide), if_neg (show ¬ (1 : Int32) = 0 by decide)]
      unfold f_X4_readSeed
      rcases x_single (N := N) hL he hp ht hf3 (by omega) (nI (K p)) value code number ea 9999 with ⟨hfl, k2, hi2, cr, nst, nnx, ntk, nvv, tm, mr⟩ | ⟨hfl, ka, v', nst, nnx, ntk, nvv, hka, cr, mr⟩ | ⟨hfl, mr⟩
      · obtain ⟨⟨f1a, f2a, f3a, f4a, f5a, f6a⟩, _⟩ := hL (Q p) f3
        have v9 := f6a k2
        have hv : V (Q p) ≤ 9999 := b_le (k := 9999) (by omega) (by omega) hi2
        rw [if_pos hfl, cr, z_ob6, if_neg (show ¬ (1 : Int32) = 0 by decide), z_ob8, mr, z_ob8, if_neg (show ¬ nI (V (Q p)) < 0 from nI_pos (by omega)), z_ob11]
        rcases x_end (N := N) hL f3a tm (nI (S (Q p))) (nI (V (Q p))) code dl ds (nI (V (Q p))) ea (nI (V (Q p))) with ⟨k3, v', w, en, mo, tq⟩ | ⟨k3, v', en, mo⟩
        · right; right
          obtain ⟨⟨f1q, f2q, f3q, f4q, f5q, f6q⟩, _⟩ := hL (Q (Q p)) f3a
          rw [mo]
          exact ⟨Q (Q (Q p)), _, _, _, _, _, _, _, _, _, _, _, _, _, _, _, _, _, _, _, _, _, _, _, _, _, _, _, _, _, _, _, _, _, _, _, _, _, _, _, _, _, _, _, _, _, _, _, _, _, _, _, _, _, _, _, _, _, _, by have := f5q (by omega); omega, f3q, rfl, en, rfl, tq, h0, gU G 0 7 (V (Q p)), WF_seed hG hv, DC_seed hc, DM_seed hm, hf1, hf2, Or.inr ⟨rfl, rfl⟩⟩
        · right; left
          rw [mo]
          exact ⟨1, _, _, _, _, _, _, _, _, _, _, _, _, _, _, _, _, _, _, _, _, _, _, _, _, _, _, _, _, _, _, _, _, _, _, _, _, _, _, _, _, _, _, _, _, _, _, _, _, _, _, _, _, _, _, _, _, _, _, _, by decide, rfl, en, rfl, h0⟩
      · left
        unfold f_X9_statement_j84
        rw [if_pos hfl, cr, z_ob6, if_pos rfl, z_ob8, mr, z_ob8, if_pos (show (-1 : Int32) < 0 by decide), z_ob11, if_pos rfl]
        exact ⟨ka, _, _, _, _, _, _, _, _, _, _, _, _, _, _, _, _, _, _, _, _, _, _, _, _, _, _, _, _, _, _, _, _, _, _, _, _, _, _, _, _, _, _, _, _, _, _, _, _, _, _, _, _, _, _, hka, rfl, rfl, h0⟩
      · left
        unfold f_X9_statement_j84 f_X4_fail
        rw [if_neg (show ¬ er = 0 by rw [hfl]; decide), z_ob2, z_ob8, mr, z_ob8, if_pos (show (-1 : Int32) < 0 by decide), z_ob11, if_pos rfl]
        exact ⟨2, _, _, _, _, _, _, _, _, _, _, _, _, _, _, _, _, _, _, _, _, _, _, _, _, _, _, _, _, _, _, _, _, _, _, _, _, _, _, _, _, _, _, _, _, _, _, _, _, _, _, _, _, _, _, by decide, rfl, rfl, h0⟩
    rw [if_pos (show (0 : Int32) = 0 from rfl), if_pos (show (0 : Int32) = 0 from rfl)]
    left
    unfold f_X9_statement_j84 f_X4_fail f_X9_fails
    rw [z_ob2, if_pos (show (0 : Int32) = 0 from rfl), z_ob3, z_ob11, if_pos (show (0 : Int32) = 0 from rfl), hs1]
    exact ⟨1, _, _, _, _, _, _, _, _, _, _, _, _, _, _, _, _, _, _, _, _, _, _, _, _, _, _, _, _, _, _, _, _, _, _, _, _, _, _, _, _, _, _, _, _, _, _, _, _, _, _, _, _, _, _, by decide, rfl, rfl, h0⟩
  · left
    rw [if_neg h1] at wm0
    rw [if_neg h1] at wm1
    rw [if_neg h1] at wm2
    rw [if_neg h1] at wm3
    rw [if_neg h1] at wm4
    rw [if_neg h1] at wm5
    rw [if_neg h1] at wm6
    rw [if_neg h1] at wm7
    unfold f_X9_otherLine f_X9_statement_j84 f_X4_fail f_X9_fails
    rw [if_neg (show ¬ nI (K p) = 1 by rw [e1]; exact h1), z_ob2, wm0, z_ob1, if_pos (show (0 : Int32) = 0 from rfl), wm1, z_ob1, if_pos (show (0 : Int32) = 0 from rfl), wm2, z_ob1, if_pos (show (0 : Int32) = 0 from rfl), wm3, z_ob1, if_pos (show (0 : Int32) = 0 from rfl), wm4, z_ob1, if_pos (show (0 : Int32) = 0 from rfl), wm5, z_ob1, if_pos (show (0 : Int32) = 0 from rfl), wm6, z_ob1, if_pos (show (0 : Int32) = 0 from rfl), wm7, z_ob1, if_pos (show (0 : Int32) = 0 from rfl), if_pos (show (0 : Int32) = 0 from rfl), z_ob3, z_ob11, if_pos (show (0 : Int32) = 0 from rfl), hs1]
    exact ⟨1, _, _, _, _, _, _, _, _, _, _, _, _, _, _, _, _, _, _, _, _, _, _, _, _, _, _, _, _, _, _, _, _, _, _, _, _, _, _, _, _, _, _, _, _, _, _, _, _, _, _, _, _, _, _, by decide, rfl, rfl, h0⟩
end
