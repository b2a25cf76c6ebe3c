variable {G : Nat → Nat → Nat} {regions balloons letters loft start seed count turnCount : Int32} {risk distance comeback capacity pigeons weight priority turnFrom turnTo follow land aimCount aim : Nat → Int32} {mLoft mStart mSeed : Int32} {mRegions mRisk mDistance mBack mWinds mNamed mNR mNW mTurns mTF mTT mTW mBalloons mRoom mPigeons mLetters mWeight mPriority : Nat → Int32}
variable {P : Nat → Nat → Nat} {T : Nat} {day wind loftN lost lc jc : Int32} {ds : Int64} {jk jn jd bst br cg lt an ho du la mNow : Nat → Int32}
theorem e_fly {N b s : Nat} (und : Int32) (undo : Nat → Int32) (hN : 3000 < N) (hT : T ≤ 1000) (hG : WF G) (hc : RGc G regions balloons letters loft start seed count turnCount risk distance comeback capacity pigeons weight priority turnFrom turnTo follow land aimCount aim) (hm : RGm G mLoft mStart mSeed mRegions mRisk mDistance mBack mWinds mNamed mNR mNW mTurns mTF mTT mTW mBalloons mRoom mPigeons mLetters mWeight mPriority) (hn : RSn G P T day wind loftN lost ds mNow) (hj : RSj P jc jk jn jd mNow) (hb : RSb G P bst br cg mNow) (hl : RSl G P lt an mNow) (ha : RSa G P T lc ho du la) (hf : RSf P mNow) (hi : RSi G P) (b1 : b < G 0 3) (b2 : P 6 b = 0) (s1 : s < 2 ^ G 0 4) (s2 : ∀ k, k < G 0 4 → s.testBit k = true → P 4 k = 0) (hW : 0 < G 0 1) : ∃ P' fate loft' lost' lc' ds' la' bst' br' cg' lt' jc' jk' jn' jd' du' ho' now', f_X6_fly N regions balloons day wind loftN lost lc ds count aimCount aim land risk la bst br cg lt pigeons jc jk jn jd distance du comeback ho (nI b) (nI s) = some (fate, loft', lost', lc', ds', la', bst', br', cg', lt', jc', jk', jn', jd', du', ho') ∧ (gIx 3 213 (gIx (nI b) 20 (gIx 3 213 (gIx (25 + nI b) 213 (ob2 (f_X9_regionDrawn N (upd (upd mNow (3 : Int32).toNatClampNeg ((mNow (3 : Int32).toNatClampNeg) - (mPigeons (nI b).toNatClampNeg))) (25 + nI b).toNatClampNeg (nI s)) mNamed mNW mNR) (fun r_9 now_10 => gIx (15 + nI b) 213 (if r_9 = (-2) then (f_X9_launch_j169 N mLetters mPigeons mBack mDistance (nI b) (nI s) r_9 0 und (upd now_10 (15 + nI b).toNatClampNeg r_9) undo 1) else (ob2 (f_X9_draw N (upd now_10 (15 + nI b).toNatClampNeg r_9)) (fun r_11 now_12 => gIx r_9 16 (if (mRisk r_9.toNatClampNeg) ≤ r_11 then (f_X9_launch_j169 N mLetters mPigeons mBack mDistance (nI b) (nI s) r_9 0 und now_12 undo 3) else (f_X9_launch_j169 N mLetters mPigeons mBack mDistance (nI b) (nI s) r_9 0 und now_12 undo 2)))))))))) ) = some (fate, 0, und, now', undo) ∧ RSn G P' T day wind loft' lost' ds' now' ∧ RSj P' jc' jk' jn' jd' now' ∧ RSb G P' bst' br' cg' now' ∧ RSl G P' lt' an now' ∧ RSa G P' T lc' ho' du' la' ∧ RSf P' now' ∧ RSi G P' := by
  have hG' := hG
  have hc' := hc
  have hm' := hm
  obtain ⟨⟨g0, g1, g2, g3, g4, g5, g6, g7⟩, gr, ⟨gna, gn1, gn2, gn3⟩, ⟨gt1, gt2, gt3⟩, gb, gl⟩ := hG
  obtain ⟨⟨rfl, rfl, rfl, rfl, rfl, rfl, rfl, rfl⟩, cr, cb, cl, ct, cf, cla, cac, cai⟩ := hc
  obtain ⟨⟨m0, m1, m2, m3, m4, rfl, rfl, rfl⟩, mr, mb, ml, mt, mna, mnr⟩ := hm
  have w1 := hn.2.1.2.1 hW
  have n1 := hn.2.1.1
  have hx := hn.2.2.1.2.2
  have hds := hn.2.2.1.1
  have hn2 := hn.2.2.1.2.1
  have hn3 := hn.2.2.2.1
  have hlc := ha.1
  have c9 : P 0 3 ≤ 9 := cnt_le (l := P 1) (q := P 6) (fun j hj => by have := (ha.2.1 j hj).2; omega) hi.1 (by omega) b2
  obtain ⟨pc1, pc2⟩ := cb b b1
  obtain ⟨pm1, pm2⟩ := mb b b1
  have hnx := nx_lt (P 0 2)
  have k1 : upd (upd mNow 3 (loftN - nI (G 11 b))) (25 + b) (nI s) 1 = nI (P 0 1) := by rw [pk_un (by omega), pk_un (by omega), n1, w1.1]
  have k2 : upd (upd mNow 3 (loftN - nI (G 11 b))) (25 + b) (nI s) 2 = nI (P 0 2) := by rw [pk_un (by omega), pk_un (by omega), hn2]
  obtain ⟨r, q1, q2, q3⟩ := e_chooseR2 (N := N) (by omega) hG' hc' hm' w1.2 hx k1 k2
  have i3 : ∀ k, gIx (γ := Int32 × Int32 × Int32 × (Nat → Int32) × (Nat → Int32)) 3 213 k = k := fun k => z_gIx (i := 3) (by omega) (by omega)
  have c3 : (3 : Int32).toNatClampNeg = 3 := rfl
  have a25 : (25 : Int32) + nI b = nI (25 + b) := by rw [show (25 : Int32) = nI 25 from rfl, z_add]
  have a15 : (15 : Int32) + nI b = nI (15 + b) := by rw [show (15 : Int32) = nI 15 from rfl, z_add]
  rw [i3, i3, z_gIx (i := b) (n := 20) (by omega) (by omega), c3, hn3, a25, a15, z_gIx (i := 25 + b) (by omega) (by omega), z_cl (n := b) (by omega), z_cl (n := 25 + b) (by omega), z_cl (n := 15 + b) (by omega), pm2, q3, z_ob2, z_gIx (i := 15 + b) (by omega) (by omega)]
  have i0 : ∀ k, gIx (γ := Int32 × Int32 × Int32 × Int32 × Int64 × (Nat → Int32) × (Nat → Int32) × (Nat → Int32) × (Nat → Int32) × (Nat → Int32) × Int32 × (Nat → Int32) × (Nat → Int32) × (Nat → Int32) × (Nat → Int32) × (Nat → Int32)) 0 4 k = k := fun k => z_gIx (i := 0) (by omega) (by omega)
  have el : (nI (P 0 3) < 10) = (P 0 3 < 10) := z_lt (b := 10) (by omega) (by omega)
  have e1 : nI (P 0 3) + 1 = nI (P 0 3 + 1) := nI_1 _
  have hfl : ∀ (f : Nat) (ds2 : Int64), f_X6_drawFate N (nI (G 0 0)) (lN (nx (P 0 2))) risk r = some (nI f, ds2) → f_X6_fly N (nI (G 0 0)) (nI (G 0 3)) day wind loftN lost lc ds (nI (G 0 1)) aimCount aim land risk la bst br cg lt pigeons jc jk jn jd distance du comeback ho (nI b) (nI s) = if nI f = 3 then f_X6_fly_j122 N (nI (G 0 0)) (nI (G 0 3)) day loftN lost pigeons jc jk jn jd distance du comeback ho (nI b) (nI s) r (nI f) (nI (P 0 3 + 1)) ds2 (upd la (P 0 3) (nI b)) (upd bst b (nI f)) (upd br b r) (upd cg b (nI s)) (upd lt 0 (lt 0 &&& (nI s ^^^ (-1)))) 2 else f_X6_fly_j122 N (nI (G 0 0)) (nI (G 0 3)) day loftN lost pigeons jc jk jn jd distance du comeback ho (nI b) (nI s) r (nI f) (nI (P 0 3 + 1)) ds2 (upd la (P 0 3) (nI b)) (upd bst b (nI f)) (upd br b r) (upd cg b (nI s)) (upd lt 0 (lt 0 &&& (nI s ^^^ (-1)))) 1 := by
    intro f ds2 h
    unfold f_X6_fly
    rw [z_hasB, z_ob1, if_neg (z_nj b1 (by omega)), if_neg (by decide), hlc, if_neg (nI_pos (by omega)), if_pos (by rw [el]; omega), hds, s_draw hx, z_ob2, w1.1, q2, z_ob1, h, z_ob2, z_gIx (i := P 0 3) (n := 10) (by omega) (by omega), z_gIx (i := b) (n := 10) (by omega) (by omega), z_gIx (i := b) (n := 10) (by omega) (by omega), z_gIx (i := b) (n := 10) (by omega) (by omega), i0, i0, e1, z_cl (n := P 0 3) (by omega), z_cl (n := b) (by omega), z_c0]
  rcases q1 with rfl | ⟨k, hk, rfl⟩
  · -- the sea
    have hd : f_X6_drawFate N (nI (G 0 0)) (lN (nx (P 0 2))) risk (-2) = some (nI 1, lN (nx (P 0 2))) := by
      unfold f_X6_drawFate
      rw [z_hasR, z_ob1, if_pos (Or.inl (by decide)), if_pos rfl]; rfl
    rw [hfl 1 _ hd, if_neg (by decide), if_pos rfl]
    obtain ⟨P', jc', jk', jn', jd', lt', lost', now', t1, t2, t3⟩ := e_lost (N := N) (b := b) (s := s) (f := 1) (x := nx (P 0 2)) (r := -2) (loft' := loftN - nI (G 11 b)) (und := und) (undo := undo) (now4 := upd (upd (upd (upd mNow 3 (loftN - nI (G 11 b))) (25 + b) (nI s)) 2 (nI (nx (P 0 2)))) (15 + b) (-2)) hN hT hG' hc' hm' hn hj hb hl ha hf hi b1 b2 s1 s2 (Or.inl rfl) hnx (by rw [pk_un (by omega), pk_us]) (by rw [pk_un (by omega), pk_un (by omega), pk_un (by omega), pk_us]) (by rw [pk_us]) (by rw [pk_un (by omega), pk_un (by omega), pk_us]) (fun q h1 h2 h3 h4 => by rw [pk_un h3, pk_un h1, pk_un h4, pk_un h2])
    exact ⟨P', _, _, _, _, _, _, _, _, _, _, _, _, _, _, _, _, _, t1, t2, t3⟩
  · rw [if_neg (by rw [z_m2 (by omega)]; exact id)]
    have kk : upd (upd (upd (upd mNow 3 (loftN - nI (G 11 b))) (25 + b) (nI s)) 2 (nI (nx (P 0 2)))) (15 + b) (nI k) 2 = nI (nx (P 0 2)) := by rw [pk_un (by omega), pk_us]
    rw [m_draw hnx kk, z_ob2, z_gIx (i := k) (n := 16) (by omega) (by omega), z_cl (n := k) (by omega), (mr k hk).1]
    have hnn := nx_lt (nx (P 0 2))
    have hdd := dr_lt (nx (P 0 2))
    have kg := (gr k hk).1
    have hdF : f_X6_drawFate N (nI (G 0 0)) (lN (nx (P 0 2))) risk (nI k) = some (nI (if G 1 k ≤ dr (nx (P 0 2)) then 3 else 2), lN (nx (nx (P 0 2)))) := by
      unfold f_X6_drawFate
      rw [z_hasR, z_ob1, if_neg (z_nj hk (by omega)), if_neg (by decide), s_draw hnx, z_ob2, z_gIx (by omega) (by omega), z_cl (by omega), (cr k hk).1]
      simp (disch := omega) only [z_le]
      split <;> rfl
    simp (disch := omega) only [z_le]
    by_cases hle : G 1 k ≤ dr (nx (P 0 2))
    · rw [if_pos hle] at hdF
      rw [hfl 3 _ hdF, if_pos (show nI 3 = 3 from rfl), if_pos hle]
      obtain ⟨P', x', jc', jk', jn', jd', lt', lost', ho', du', now', t1, t2, t3⟩ := e_land3 (N := N) (b := b) (s := s) (k := k) (x := nx (nx (P 0 2))) (r := nI k) (loft' := loftN - nI (G 11 b)) (und := und) (undo := undo) (now4 := upd (upd (upd (upd (upd mNow 3 (loftN - nI (G 11 b))) (25 + b) (nI s)) 2 (nI (nx (P 0 2)))) (15 + b) (nI k)) 2 (nI (nx (nx (P 0 2))))) hN hT hG' hc' hm' hn hj hb hl ha hf hi b1 b2 s1 s2 hk rfl hnn (by rw [pk_us]) (by rw [pk_un (by omega), pk_un (by omega), pk_un (by omega), pk_un (by omega), pk_us]) (by rw [pk_un (by omega), pk_us]) (by rw [pk_un (by omega), pk_un (by omega), pk_un (by omega), pk_us]) (fun q h1 h2 h3 h4 => by rw [pk_un h1, pk_un h3, pk_un h1, pk_un h4, pk_un h2])
      exact ⟨P', _, _, _, _, _, _, _, _, _, _, _, _, _, _, _, _, _, t1, t2, t3⟩
    · rw [if_neg hle] at hdF
      rw [hfl 2 _ hdF, if_neg (by decide), if_neg hle]
      obtain ⟨P', jc', jk', jn', jd', lt', lost', now', t1, t2, t3⟩ := e_lost (N := N) (b := b) (s := s) (f := 2) (x := nx (nx (P 0 2))) (r := nI k) (loft' := loftN - nI (G 11 b)) (und := und) (undo := undo) (now4 := upd (upd (upd (upd (upd mNow 3 (loftN - nI (G 11 b))) (25 + b) (nI s)) 2 (nI (nx (P 0 2)))) (15 + b) (nI k)) 2 (nI (nx (nx (P 0 2))))) hN hT hG' hc' hm' hn hj hb hl ha hf hi b1 b2 s1 s2 (Or.inr rfl) hnn (by rw [pk_us]) (by rw [pk_un (by omega), pk_un (by omega), pk_un (by omega), pk_un (by omega), pk_us]) (by rw [pk_un (by omega), pk_us]) (by rw [pk_un (by omega), pk_un (by omega), pk_un (by omega), pk_us]) (fun q h1 h2 h3 h4 => by rw [pk_un h1, pk_un h3, pk_un h1, pk_un h4, pk_un h2])
      exact ⟨P', _, _, _, _, _, _, _, _, _, _, _, _, _, _, _, _, _, t1, t2, t3⟩
