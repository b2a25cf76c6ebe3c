variable {G : Nat → Nat → Nat} {regions balloons letters loft start seed count turnCount : Int32} {risk distance comeback capacity pigeons weight priority turnFrom turnTo follow land aimCount aim : Nat → Int32} {mLoft mStart mSeed : Int32} {mRegions mRisk mDistance mBack mWinds mNamed mNR mNW mTurns mTF mTT mTW mBalloons mRoom mPigeons mLetters mWeight mPriority : Nat → Int32}
variable {P : Nat → Nat → Nat} {T : Nat} {day wind loftN lost lc jc : Int32} {ds : Int64} {jk jn jd bst br cg lt an ho du la mNow : Nat → Int32}
theorem lt_launch {s v : Nat} (hG : WF G) (hl : RSl G P lt an mNow) (s1 : s < 2 ^ G 0 4) (s2 : ∀ k, k < G 0 4 → s.testBit k = true → P 4 k = 0) (v1 : v = 1 ∨ v = 2) : ∀ st, st < 4 → upd (upd lt 0 (lt 0 &&& (nI s ^^^ (-1)))) v (upd lt 0 (lt 0 &&& (nI s ^^^ (-1))) v ||| nI s) st = nI (bs (G 0 4) (fun k => (if s.testBit k then v else P 4 k) == st)) := by
  intro st hst
  have e := bs_of s1
  have hl1 := hl.1
  by_cases h1 : st = v
  · subst h1
    rw [pk_us, pk_un (by omega), hl1 st hst, z_or, e, bs_or]
    refine congrArg nI (bs_congr (fun k hk => ?_))
    rw [bs_bit]
    by_cases hb : s.testBit k = true
    · simp [hb, hk]
    · simp [hb]
  · rw [pk_un h1]
    by_cases h0 : st = 0
    · subst h0
      rw [pk_us, hl1 0 (by omega), z_andn, e, bs_andn]
      refine congrArg nI (bs_congr (fun k hk => ?_))
      rw [bs_bit]
      by_cases hb : s.testBit k = true
      · have : ¬ v = 0 := by rcases v1 with q | q <;> omega
        simp [hb, hk, this]
      · simp [hb]
    · rw [pk_un h0, hl1 st hst]
      refine congrArg nI (bs_congr (fun k hk => ?_))
      by_cases hb : s.testBit k = true
      · have := s2 k hk hb
        have e1 : ¬ (0 = st) := fun q => h0 q.symm
        have e2 : ¬ (v = st) := fun q => h1 q.symm
        rw [if_pos hb, this, beq_false_of_ne e1, beq_false_of_ne e2]
      · simp [hb]
/-- in the sea, or captured -/
theorem e_lost {N b s f x : Nat} {r loft' und : Int32} {now4 undo : Nat → Int32} (hN : 3000 < N) (hT : T ≤ 1000) (hG : WF G) (hc : RGc G regions balloons letters loft start seed count turnCount risk distance comeback capacity pigeons weight priority turnFrom turnTo follow land aimCount aim) (hm : RGm G mLoft mStart mSeed mRegions mRisk mDistance mBack mWinds mNamed mNR mNW mTurns mTF mTT mTW mBalloons mRoom mPigeons mLetters mWeight mPriority) (hn : RSn G P T day wind loftN lost ds mNow) (hj : RSj P jc jk jn jd mNow) (hb : RSb G P bst br cg mNow) (hl : RSl G P lt an mNow) (ha : RSa G P T lc ho du la) (hf : RSf P mNow) (hi : RSi G P) (b1 : b < G 0 3) (b2 : P 6 b = 0) (s1 : s < 2 ^ G 0 4) (s2 : ∀ k, k < G 0 4 → s.testBit k = true → P 4 k = 0) (f1 : f = 1 ∨ f = 2) (x1 : x < 2 ^ 31) (A2 : now4 2 = nI x) (A3 : now4 3 = loft') (A15 : now4 (15 + b) = r) (A25 : now4 (25 + b) = nI s) (Aq : ∀ q, q ≠ 2 → q ≠ 3 → q ≠ 15 + b → q ≠ 25 + b → now4 q = mNow q) : ∃ P' jc' jk' jn' jd' lt' lost' now', f_X6_fly_j122 N regions balloons day loftN lost pigeons jc jk jn jd distance du comeback ho (nI b) (nI s) r (nI f) (nI (P 0 3 + 1)) (lN x) (upd la (P 0 3) (nI b)) (upd bst b (nI f)) (upd br b r) (upd cg b (nI s)) (upd lt 0 (lt 0 &&& (nI s ^^^ (-1)))) 1 = some (nI f, loftN - nI (G 11 b), lost', nI (P 0 3 + 1), lN x, upd la (P 0 3) (nI b), upd bst b (nI f), upd br b r, upd cg b (nI s), lt', jc', jk', jn', jd', du, ho) ∧ f_X9_launch_j169 N mLetters mPigeons mBack mDistance (nI b) (nI s) r 0 und now4 undo (nI f) = some (nI f, 0, und, now', undo) ∧ RSn G P' T day wind loft' lost' (lN x) now' ∧ RSj P' jc' jk' jn' jd' now' ∧ RSb G P' (upd bst b (nI f)) (upd br b r) (upd cg b (nI s)) now' ∧ RSl G P' lt' an now' ∧ RSa G P' T (nI (P 0 3 + 1)) ho du (upd la (P 0 3) (nI b)) ∧ RSf P' now' ∧ RSi G P' := by
  have hG' := hG
  have hlt := lt_launch (v := 1) hG hl s1 s2 (Or.inl rfl)
  obtain ⟨⟨g0, g1, g2, g3, g4, g5, g6, g7⟩, gr, ⟨gna, gn1, gn2, gn3⟩, ⟨gt1, gt2, gt3⟩, gb, gl⟩ := hG
  obtain ⟨⟨rfl, rfl, rfl, rfl, rfl, rfl, rfl, rfl⟩, cr, cb, cl, ct, cf, cla, cac, cai⟩ := hc
  obtain ⟨⟨m0, m1, m2, m3, m4, rfl, rfl, rfl⟩, mr, mb, ml, mt, mna, mnr⟩ := hm
  have hp := z_p24 g4
  obtain ⟨pc1, pc2⟩ := cb b b1
  obtain ⟨pm1, pm2⟩ := mb b b1
  have pg := (gb b b1).2.2
  have hf3 : ¬ (nI f = (3 : Int32)) := by rw [show (3 : Int32) = nI 3 from rfl, z_eq (by omega) (by omega)]; omega
  -- the model's way
  obtain ⟨n6, q6, r6⟩ := m_become (N := N) (v := 1) (s := s) (by omega) g4 (by omega) m4 (upd now4 (5 + b) (nI f))
  rw [show nI 1 = 1 from rfl] at q6
  have h64 : n6 4 = lost := by rw [r6 4, if_neg (by omega), pk_un (by omega), Aq 4 (by omega) (by omega) (by omega) (by omega)]; exact hn.2.2.2.2
  obtain ⟨y7, q7⟩ := m_rel0 (N := N) (r := r) (mcom := mBack) (mdis := mDistance) (by omega) (show b < 10 by omega) pg hf3 pm2 (upd n6 4 (lost + nI (G 11 b)))
  have F7 : ∀ q, q ≠ 4 → upd n6 4 (lost + nI (G 11 b)) q = n6 q := fun q hq => pk_un hq
  have big : ∀ q, 83 ≤ q → upd n6 4 (lost + nI (G 11 b)) q = mNow q := by
    intro q hq
    rw [F7 q (by omega), r6 q, if_neg (by omega), pk_un (by omega), Aq q (by omega) (by omega) (by omega) (by omega)]
  have hj7 : JR (P 0 4) jc jk jn jd (upd n6 4 (lost + nI (G 11 b))) := by
    obtain ⟨j1, j2, j3, j4⟩ := hj
    refine ⟨j1, by rw [big _ (by omega)]; exact j2, j3, fun k hk => ?_⟩
    rw [big _ (by omega), big _ (by omega), big _ (by omega)]; exact j4 k hk
  have h70 : upd n6 4 (lost + nI (G 11 b)) 0 = day := by
    rw [F7 0 (by omega), r6 0, if_neg (by omega), pk_un (by omega), Aq 0 (by omega) (by omega) (by omega) (by omega), hn.1.2.1, hn.1.1]
  obtain ⟨c', k', m', d', n8, p1, p2, p3, p4⟩ := e_note (N := N) hN hj7 h70 (nI f) (nI b)
  have lo : ∀ q, q < 164 → q ≠ 4 → n8 q = n6 q := fun q hq h4 => by rw [p4 q hq, F7 q h4]
  have A4' : ∀ q, q < 35 → n6 q = upd now4 (5 + b) (nI f) q := fun q hq => by rw [r6 q, if_neg (by omega)]
  refine ⟨PL P b s f 1 0 (P 3 b) x c', nI c', k', m', d', _, lost + nI (G 11 b), n8, ?_, ?_, rs_launch (f := f) (v := 1) (t := 0) (ub := P 3 b) (r := r) hG' hT hn hb hl ha hf hi b1 b2 s1 s2 (by omega) (by omega) (Or.inl rfl) (by omega) (by omega) ((ha.2.2 b (by omega)).2.2.2) x1 p3 hlt ?_ ?_ ?_ ?_ ?_ ?_ ?_ ?_ ?_ ?_ ?_ ?_ ?_ ?_ ?_⟩
  · unfold f_X6_fly_j122
    have i1 : ∀ k, gIx (γ := Int32 × Int32 × Int32 × Int32 × Int64 × (Nat → Int32) × (Nat → Int32) × (Nat → Int32) × (Nat → Int32) × (Nat → Int32) × Int32 × (Nat → Int32) × (Nat → Int32) × (Nat → Int32) × (Nat → Int32) × (Nat → Int32)) 1 4 k = k := fun k => z_gIx (i := 1) (by omega) (by omega)
    rw [i1, i1, z_gIx (by omega) (by omega), p1, z_ob4, if_neg hf3, z_gIx (by omega) (by omega), z_cl (by omega), pc2]
    rfl
  · unfold f_X9_launch_j169 f_X9_launch_j194 f_X9_launch_j218
    have a5 : (5 : Int32) + nI b = nI (5 + b) := by rw [show (5 : Int32) = nI 5 from rfl, z_add]
    have i4 : ∀ k, gIx (γ := Int32 × Int32 × Int32 × (Nat → Int32) × (Nat → Int32)) 4 213 k = k := fun k => z_gIx (i := 4) (by omega) (by omega)
    have c4 : (4 : Int32).toNatClampNeg = 4 := rfl
    rw [a5, z_gIx (by omega) (by omega), if_neg hf3, z_cl (by omega), q6, z_ob1, if_neg hf3, i4, i4, z_gIx (by omega) (by omega), c4, h64, z_cl (by omega), pm2, q7, z_ob2, p2, z_ob1]
  · intro q hq
    by_cases e : q = b
    · subst e; rw [if_pos rfl, (ha.2.2 q (by omega)).1, (hi.2.1 q (by omega) b2).1]
    · rw [if_neg e]; exact (ha.2.2 q hq).1
  · intro q hq
    by_cases e : q = b
    · subst e; rw [if_pos rfl]; exact (ha.2.2 q hq).2.2.1
    · rw [if_neg e]; exact (ha.2.2 q hq).2.2.1
  · rw [lo 0 (by omega) (by omega), A4' 0 (by omega), pk_un (by omega), Aq 0 (by omega) (by omega) (by omega) (by omega)]
  · rw [lo 1 (by omega) (by omega), A4' 1 (by omega), pk_un (by omega), Aq 1 (by omega) (by omega) (by omega) (by omega)]
  · rw [lo 2 (by omega) (by omega), A4' 2 (by omega), pk_un (by omega), A2]
  · rw [lo 3 (by omega) (by omega), A4' 3 (by omega), pk_un (by omega), A3]
  · rw [p4 4 (by omega), pk_us]
  · intro q hq
    rw [lo _ (by omega) (by omega), A4' _ (by omega)]
    by_cases e : q = b
    · subst e; rw [pk_us, if_pos rfl]
    · rw [pk_un (by omega), if_neg e, Aq _ (by omega) (by omega) (by omega) (by omega)]
  · intro q hq
    rw [lo _ (by omega) (by omega), A4' _ (by omega), pk_un (by omega)]
    by_cases e : q = b
    · subst e; rw [if_pos rfl, A15]
    · rw [if_neg e, Aq _ (by omega) (by omega) (by omega) (by omega)]
  · intro q hq
    rw [lo _ (by omega) (by omega), A4' _ (by omega), pk_un (by omega)]
    by_cases e : q = b
    · subst e; rw [if_pos rfl, A25]
    · rw [if_neg e, Aq _ (by omega) (by omega) (by omega) (by omega)]
  · intro k hk
    rw [lo _ (by omega) (by omega), r6, show 35 + k - 35 = k by omega]
    by_cases e : s.testBit k = true
    · rw [if_pos ⟨by omega, by omega, e⟩, if_pos e]
    · rw [if_neg (fun h => e h.2.2), if_neg e, pk_un (by omega), Aq _ (by omega) (by omega) (by omega) (by omega)]
  · intro k hk
    rw [lo _ (by omega) (by omega), r6, if_neg (by omega), pk_un (by omega), Aq _ (by omega) (by omega) (by omega) (by omega)]
  · rw [p4 83 (by omega), big 83 (by omega), Nat.add_zero]; exact hf.1
  · intro i hi2
    have hle : (fl (P 1) (P 2) (P 0 3)).length ≤ 40 := by
      have e2 := fl_sum (n := G 0 3) (q := P 6) (h := P 2) (fun j hj => (ha.2.1 j hj).2) (fun b hb => hi.1 b (by omega)) (fun b hb e => (hi.2.1 b (by omega) e).1)
      exact fl_len_le (G := G) (n := G 0 3) (fun b hb => (ha.2.2 b (by omega)).2.1) e2 g3
    rw [p4 _ (by omega), big _ (by omega), p4 _ (by omega), big _ (by omega)]; exact ⟨rfl, rfl⟩
  · intro q hq; omega
/-- landed -/
theorem e_land3 {N b s k x : Nat} {loft' und : Int32} {r : Int32} {now4 undo : Nat → Int32} (hN : 3000 < N) (hT : T ≤ 1000) (hG : WF G) (hc : RGc G regions balloons letters loft start seed count turnCount risk distance comeback capacity pigeons weight priority turnFrom turnTo follow land aimCount aim) (hm : RGm G mLoft mStart mSeed mRegions mRisk mDistance mBack mWinds mNamed mNR mNW mTurns mTF mTT mTW mBalloons mRoom mPigeons mLetters mWeight mPriority) (hn : RSn G P T day wind loftN lost ds mNow) (hj : RSj P jc jk jn jd mNow) (hb : RSb G P bst br cg mNow) (hl : RSl G P lt an mNow) (ha : RSa G P T lc ho du la) (hf : RSf P mNow) (hi : RSi G P) (b1 : b < G 0 3) (b2 : P 6 b = 0) (s1 : s < 2 ^ G 0 4) (s2 : ∀ k, k < G 0 4 → s.testBit k = true → P 4 k = 0) (hk : k < G 0 0) (hr : r = nI k) (x1 : x < 2 ^ 31) (A2 : now4 2 = nI x) (A3 : now4 3 = loft') (A15 : now4 (15 + b) = r) (A25 : now4 (25 + b) = nI s) (Aq : ∀ q, q ≠ 2 → q ≠ 3 → q ≠ 15 + b → q ≠ 25 + b → now4 q = mNow q) : ∃ P' x' jc' jk' jn' jd' lt' lost' ho' du' now', f_X6_fly_j122 N regions balloons day loftN lost pigeons jc jk jn jd distance du comeback ho (nI b) (nI s) r (nI 3) (nI (P 0 3 + 1)) (lN x) (upd la (P 0 3) (nI b)) (upd bst b (nI 3)) (upd br b r) (upd cg b (nI s)) (upd lt 0 (lt 0 &&& (nI s ^^^ (-1)))) 2 = some (nI 3, loftN - nI (G 11 b), lost', nI (P 0 3 + 1), lN x', upd la (P 0 3) (nI b), upd bst b (nI 3), upd br b r, upd cg b (nI s), lt', jc', jk', jn', jd', du', ho') ∧ f_X9_launch_j169 N mLetters mPigeons mBack mDistance (nI b) (nI s) r 0 und now4 undo (nI 3) = some (nI 3, 0, und, now', undo) ∧ RSn G P' T day wind loft' lost' (lN x') now' ∧ RSj P' jc' jk' jn' jd' now' ∧ RSb G P' (upd bst b (nI 3)) (upd br b r) (upd cg b (nI s)) now' ∧ RSl G P' lt' an now' ∧ RSa G P' T (nI (P 0 3 + 1)) ho' du' (upd la (P 0 3) (nI b)) ∧ RSf P' now' ∧ RSi G P' := by
  have hG' := hG
  have hlt := lt_launch (v := 2) hG hl s1 s2 (Or.inr rfl)
  obtain ⟨⟨g0, g1, g2, g3, g4, g5, g6, g7⟩, gr, ⟨gna, gn1, gn2, gn3⟩, ⟨gt1, gt2, gt3⟩, gb, gl⟩ := hG
  obtain ⟨⟨rfl, rfl, rfl, rfl, rfl, rfl, rfl, rfl⟩, cr, cb, cl, ct, cf, cla, cac, cai⟩ := hc
  obtain ⟨⟨m0, m1, m2, m3, m4, rfl, rfl, rfl⟩, mr, mb, ml, mt, mna, mnr⟩ := hm
  have hp := z_p24 g4
  obtain ⟨pc1, pc2⟩ := cb b b1
  obtain ⟨pm1, pm2⟩ := mb b b1
  obtain ⟨rc1, rc2, rc3⟩ := cr k hk
  obtain ⟨rm1, rm2, rm3⟩ := mr k hk
  obtain ⟨kg1, kg2, kg3, kg4⟩ := gr k hk
  have pg := (gb b b1).2.2
  have e2 := fl_sum (n := G 0 3) (q := P 6) (h := P 2) (fun j hj => (ha.2.1 j hj).2) (fun b hb => hi.1 b (by omega)) (fun b hb e => (hi.2.1 b (by omega) e).1)
  have hL36 : (fl (P 1) (P 2) (P 0 3)).length ≤ 36 := by
    rw [fl_len, ← e2]
    have e3 : sm (G 0 3) (P 2) + sm (G 0 3) (fun q => if q = b then 4 else 0) ≤ sm (G 0 3) (fun _ => 4) := by
      rw [← sm_add]
      refine sm_le (fun q hq => ?_)
      by_cases e : q = b
      · subst e; rw [if_pos rfl, (hi.2.1 q (by omega) b2).1]; omega
      · rw [if_neg e]; exact (ha.2.2 q (by omega)).2.1
    rw [sm_delta b (fun _ => 4), if_pos b1, sm_const] at e3
    omega
  generalize hLen : (fl (P 1) (P 2) (P 0 3)).length = L at hL36
  obtain ⟨n6, q6, r6⟩ := m_become (N := N) (v := 2) (s := s) (by omega) g4 (by omega) m4 (upd now4 (5 + b) (nI 3))
  rw [show nI 2 = 2 from rfl] at q6
  have big : ∀ q, 83 ≤ q → n6 q = mNow q := by
    intro q hq
    rw [r6 q, if_neg (by omega), pk_un (by omega), Aq q (by omega) (by omega) (by omega) (by omega)]
  have A4' : ∀ q, q < 35 → n6 q = upd now4 (5 + b) (nI 3) q := fun q hq => by rw [r6 q, if_neg (by omega)]
  have z0 : n6 0 = nI (P 0 0) := by rw [A4' 0 (by omega), pk_un (by omega), Aq 0 (by omega) (by omega) (by omega) (by omega)]; exact hn.1.2.1
  have dT := hn.1.2.2
  obtain ⟨t, x', lost', ho', n7, w1, w2, w3, w4, w5, w6, w7, w8, w9, w10, w11⟩ := e_release (N := N) (b := b) (r := k) (p := G 11 b) (cb := G 3 k) (ds := G 2 k) (L := L) (d0 := P 0 0) (pig := pigeons) (com := comeback) (mpig := mPigeons) (mcom := mBack) (mdis := mDistance) (by omega) (by omega) pg hL36 (by omega) (by omega) pc2 rc3 kg4 pm2 rm3 rm2 N 0 0 x lost ho n6 (by omega) (by omega) (by omega) x1 (by rw [(ha.2.2 b (by omega)).1, (hi.2.1 b (by omega) b2).1]) z0 (by rw [A4' 2 (by omega), pk_un (by omega), A2]) (by rw [A4' 4 (by omega), pk_un (by omega), Aq 4 (by omega) (by omega) (by omega) (by omega)]; exact hn.2.2.2.2) (by rw [big 83 (by omega), hf.1, hLen]; rfl) (fun q hq => absurd hq (Nat.not_lt_zero q))
  have hj7 : JR (P 0 4) jc jk jn jd n7 := by
    obtain ⟨j1, j2, j3, j4⟩ := hj
    have f7 : ∀ q, 164 ≤ q → n7 q = mNow q := fun q hq => by rw [w11 q (by omega) (by omega) (by omega) (by omega) (by omega), big q (by omega)]
    refine ⟨j1, by rw [f7 _ (by omega)]; exact j2, j3, fun k hk => ?_⟩
    rw [f7 _ (by omega), f7 _ (by omega), f7 _ (by omega)]; exact j4 k hk
  have h70 : n7 0 = day := by rw [w11 0 (by omega) (by omega) (by omega) (by omega) (by omega), z0, hn.1.1]
  obtain ⟨c', k', m', d', n8, p1, p2, p3, p4⟩ := e_note (N := N) hN hj7 h70 (nI 3) (nI b)
  have lo : ∀ q, q < 83 → q ≠ 2 → q ≠ 4 → n8 q = n6 q := fun q hq h2 h4 => by rw [p4 q (by omega), w11 q h2 h4 (by omega) (by omega) (by omega)]
  have sL : (fl (P 1) (P 2) (P 0 3)).length = L := hLen
  refine ⟨PL P b s 3 2 t (P 0 0 + G 2 k) x' c', x', nI c', k', m', d', _, lost', ho', upd du b (nI (P 0 0 + G 2 k)), n8, ?_, ?_, rs_launch (f := 3) (v := 2) (t := t) (ub := P 0 0 + G 2 k) (r := r) hG' hT hn hb hl ha hf hi b1 b2 s1 s2 (by omega) (by omega) (Or.inr rfl) (by omega) (fun _ => ⟨by omega, rfl⟩) (by omega) w2 p3 hlt ?_ ?_ ?_ ?_ ?_ ?_ ?_ ?_ ?_ ?_ ?_ ?_ ?_ ?_ ?_⟩
  · unfold f_X6_fly_j122 f_X6_release
    have i1 : ∀ k, gIx (γ := Int32 × Int32 × Int32 × Int32 × Int64 × (Nat → Int32) × (Nat → Int32) × (Nat → Int32) × (Nat → Int32) × (Nat → Int32) × Int32 × (Nat → Int32) × (Nat → Int32) × (Nat → Int32) × (Nat → Int32) × (Nat → Int32)) 2 4 k = k := fun k => z_gIx (i := 2) (by omega) (by omega)
    rw [show nI 0 = 0 from rfl] at w3
    rw [i1, i1, z_gIx (by omega) (by omega), p1, z_ob4, if_pos (show nI 3 = 3 from rfl), z_hasB, z_ob1, if_neg (z_nj b1 (by omega)), if_neg (by decide), hr, z_hasR, z_ob1, if_neg (z_nj hk (by omega)), if_neg (by decide), z_gIx (by omega) (by omega), z_gIx (by omega) (by omega), w3, z_ob4, z_ob4, z_cl (by omega), z_cl (by omega), rc2, hn.1.1, z_add, pc2]
    rfl
  · unfold f_X9_launch_j169 f_X9_launch_j194 f_X9_launch_j218
    have a5 : (5 : Int32) + nI b = nI (5 + b) := by rw [show (5 : Int32) = nI 5 from rfl, z_add]
    rw [show nI 0 = 0 from rfl] at w4
    rw [a5, z_gIx (by omega) (by omega), if_pos (show nI 3 = 3 from rfl), z_cl (by omega), q6, z_ob1, if_pos (show nI 3 = 3 from rfl), hr, show nI 3 = 3 from rfl, w4, z_ob2]
    rw [show nI 3 = 3 from rfl] at p2
    rw [p2, z_ob1]
  · intro q hq
    by_cases e : q = b
    · subst e; rw [if_pos rfl]; exact w5
    · rw [if_neg e, w6 q e]; exact (ha.2.2 q hq).1
  · intro q hq
    by_cases e : q = b
    · subst e; rw [if_pos rfl, pk_us]
    · rw [if_neg e, pk_un e]; exact (ha.2.2 q hq).2.2.1
  · rw [lo 0 (by omega) (by omega) (by omega), A4' 0 (by omega), pk_un (by omega), Aq 0 (by omega) (by omega) (by omega) (by omega)]
  · rw [lo 1 (by omega) (by omega) (by omega), A4' 1 (by omega), pk_un (by omega), Aq 1 (by omega) (by omega) (by omega) (by omega)]
  · rw [p4 2 (by omega), w7]
  · rw [lo 3 (by omega) (by omega) (by omega), A4' 3 (by omega), pk_un (by omega), A3]
  · rw [p4 4 (by omega), w8]
  · intro q hq
    rw [lo _ (by omega) (by omega) (by omega), A4' _ (by omega)]
    by_cases e : q = b
    · subst e; rw [pk_us, if_pos rfl]
    · rw [pk_un (by omega), if_neg e, Aq _ (by omega) (by omega) (by omega) (by omega)]
  · intro q hq
    rw [lo _ (by omega) (by omega) (by omega), A4' _ (by omega), pk_un (by omega)]
    by_cases e : q = b
    · subst e; rw [if_pos rfl, A15]
    · rw [if_neg e, Aq _ (by omega) (by omega) (by omega) (by omega)]
  · intro q hq
    rw [lo _ (by omega) (by omega) (by omega), A4' _ (by omega), pk_un (by omega)]
    by_cases e : q = b
    · subst e; rw [if_pos rfl, A25]
    · rw [if_neg e, Aq _ (by omega) (by omega) (by omega) (by omega)]
  · intro k hk
    rw [lo _ (by omega) (by omega) (by omega), r6, show 35 + k - 35 = k by omega]
    by_cases e : s.testBit k = true
    · rw [if_pos ⟨by omega, by omega, e⟩, if_pos e]
    · rw [if_neg (fun h => e h.2.2), if_neg e, pk_un (by omega), Aq _ (by omega) (by omega) (by omega) (by omega)]
  · intro k hk
    rw [lo _ (by omega) (by omega) (by omega), r6, if_neg (by omega), pk_un (by omega), Aq _ (by omega) (by omega) (by omega) (by omega)]
  · rw [p4 83 (by omega), w9, sL]
  · intro i hi2
    rw [sL] at hi2
    rw [p4 _ (by omega), p4 _ (by omega), w11 _ (by omega) (by omega) (by omega) (by omega) (by omega), w11 _ (by omega) (by omega) (by omega) (by omega) (by omega), big _ (by omega), big _ (by omega)]; exact ⟨rfl, rfl⟩
  · intro q hq
    rw [sL, p4 _ (by omega), p4 _ (by omega)]; exact w10 q hq
