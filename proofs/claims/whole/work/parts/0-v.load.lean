variable {G : Nat → Nat → Nat} {regions balloons letters loft start seed count turnCount : Int32} {risk distance comeback capacity pigeons weight priority turnFrom turnTo follow land aimCount aim : Nat → Int32} {mLoft mStart mSeed : Int32} {mRegions mRisk mDistance mBack mWinds mNamed mNR mNW mTurns mTF mTT mTW mBalloons mRoom mPigeons mLetters mWeight mPriority : Nat → Int32}
variable {P : Nat → Nat → Nat} {T : Nat} {day wind loftN lost lc jc : Int32} {ds : Int64} {jk jn jd bst br cg lt an ho du la mNow : Nat → Int32}
theorem e_bestLoad {N : Nat} {lightest : Nat → Int64} {mBest : Nat → Int32} (hN : 3000 < N) (hG : WF G) (hc : RGc G regions balloons letters loft start seed count turnCount risk distance comeback capacity pigeons weight priority turnFrom turnTo follow land aimCount aim) (hm : RGm G mLoft mStart mSeed mRegions mRisk mDistance mBack mWinds mNamed mNR mNW mTurns mTF mTT mTW mBalloons mRoom mPigeons mLetters mWeight mPriority) (hb : RSb G P bst br cg mNow) (hl : RSl G P lt an mNow) (x1 : Int32) : ∃ r a b, f_X8_bestLoad N balloons letters bst lt capacity lightest weight priority x1 = some (r, a) ∧ f_X9_bestLoad N mBalloons mNow mLetters mBest mWeight mPriority mRoom x1 = some (r, 0, b) := by
  have hi := z_isB (N := N) hm hG x1
  obtain ⟨⟨g0, g1, g2, g3, g4, g5, g6, g7⟩, gr, ⟨gna, gn1, gn2, gn3⟩, ⟨gt1, gt2, gt3⟩, gb, gl⟩ := hG
  obtain ⟨⟨rfl, rfl, rfl, rfl, rfl, rfl, rfl, rfl⟩, cr, cb, cl, ct, cf, cla, cac, cai⟩ := hc
  obtain ⟨⟨m0, m1, m2, m3, m4, rfl, rfl, rfl⟩, mr, mb, ml, mt, mna, mnr⟩ := hm
  have hp := z_p24 g4
  unfold f_X8_bestLoad f_X9_bestLoad
  rw [hi, z_ob1, z_hasB, z_ob1]
  simp only [z_01]
  by_cases h : x1 < 0 ∨ nI (G 0 3) ≤ x1
  · exact ⟨_, _, _, if_pos h, if_pos h⟩
  obtain ⟨b, hb1, rfl⟩ := z_j (by omega) h
  obtain ⟨b1, b2, b3⟩ := hb.1 b (by omega)
  have e0 : (nI (P 6 b) = 0) = (P 6 b = 0) := z_eq (b := 0) (by omega) (by omega)
  have a5 : (5 : Int32) + nI b = nI (5 + b) := by rw [show (5 : Int32) = nI 5 from rfl, z_add]
  rw [if_neg h, if_neg h, z_gIx (by omega) (by omega), a5, z_gIx (by omega) (by omega), z_cl (n := b) (by omega), z_cl (n := 5 + b) (by omega), b1, b2]
  simp only [e0]
  by_cases hr : P 6 b = 0
  · rw [if_pos hr, if_pos hr, z_gI0 (by omega) (by omega), z_gIx (by omega) (by omega), z_c0, z_gI0 (by omega) (by omega), m4, (cb b hb1).1, hl.1 0 (by omega)]
    obtain ⟨q1, q2, q3⟩ := gb b hb1
    have hlt := bs_lt (fun k => P 4 k == 0) (G 0 4)
    have hwt : ∀ k, k < G 0 4 → (mNow (35 + k) = 0) = ((P 4 k == 0) = true) := by
      intro k hk
      obtain ⟨l1, l2⟩ := hl.2.1 k hk
      rw [l1, show (nI (P 4 k) = 0) = (P 4 k = 0) from z_eq (b := 0) (by omega) (by omega)]
      simp
    have hp9 : ∀ k, (fun k => if k < G 0 4 then G 13 k else 0) k ≤ 9 := by
      intro k
      show (if k < G 0 4 then G 13 k else 0) ≤ 9
      split
      · exact (gl k ‹_›).2.2.2
      · omega
    have hpp : ∀ k, k < G 0 4 → (fun k => if k < G 0 4 then G 13 k else 0) k = G 13 k := fun k hk => if_pos hk
    obtain ⟨s, a', k1, k2⟩ := s_loadBest (N := N) (n := G 0 4) (wset := bs (G 0 4) (fun k => P 4 k == 0)) (cap := G 10 b) (lightest := lightest) (weight := weight) (priority := priority) (w := G 12) (p := fun k => if k < G 0 4 then G 13 k else 0) (wt := fun k => P 4 k == 0) hN g4 (by omega) q2 (fun k hk => by rw [bs_bit]; simp [hk]) (fun k hk => ⟨(cl k hk).1, (gl k hk).2.1⟩) (fun k hk => by rw [if_pos hk]; exact ⟨(cl k hk).2, (gl k hk).2.2.1, (gl k hk).2.2.2⟩)
    obtain ⟨a0, l1, l2⟩ := m_load_38 (N := N) N 0 mBest (by omega) (by omega) (fun v hv => absurd hv (Nat.not_lt_zero v))
    obtain ⟨a1, l3, l4⟩ := m_load_68 (N := N) (n := G 0 4) (now := mNow) (weight := mWeight) (priority := mPriority) (w := G 12) (p := fun k => if k < G 0 4 then G 13 k else 0) (wt := fun k => P 4 k == 0) hN g4 hp9 (fun k hk => ⟨(ml k hk).1, (gl k hk).2.1⟩) (fun k hk => by rw [if_pos hk]; exact (ml k hk).2) hwt N 0 a0 (by omega) (by omega) (fun k v hk hv => by
      have : k = 0 := by omega
      subst this
      rw [Nat.mul_zero, Nat.zero_add, l2 v hv]; rfl)
    have hCl : ∀ v, Cb (fun k => P 4 k == 0) (G 12) (fun k => if k < G 0 4 then G 13 k else 0) (G 0 4) v < 2 ^ 30 := by
      intro v
      have := Cb_le (wt := fun k => P 4 k == 0) (w := G 12) hp9 (G 0 4) v
      omega
    obtain ⟨u, u1, u2, u3, u4⟩ := m_load_213 (N := N) (n := G 0 4) (b := b) (cap := G 10 b) (room := mRoom) (a := a1) (c := Cb (fun k => P 4 k == 0) (G 12) (fun k => if k < G 0 4 then G 13 k else 0) (G 0 4)) (by omega) g4 q2 (mb b hb1).1 (fun v hv => l4 (G 0 4) v (by omega) hv) hCl N 0 0 (by omega) (by omega) (by omega) (fun x hx => absurd hx (Nat.not_lt_zero x)) (fun x hx => absurd hx (Nat.not_lt_zero x))
    have hempty : Adm (fun k => P 4 k == 0) (G 0 4) 0 := ⟨Nat.two_pow_pos _, fun k _ hbk => by rw [Nat.zero_testBit] at hbk; cases hbk⟩
    have ht0 : tot (G 0 4) (G 12) 0 = 0 := (sm_congr (fun k _ => by rw [Nat.zero_testBit]; rfl)).trans (sm_zero _)
    have hC0 := Cb_up (p := fun k => if k < G 0 4 then G 13 k else 0) hempty ht0
    have hCu := u3 0 (by omega)
    obtain ⟨q, hq⟩ : ∃ q, Cb (fun k => P 4 k == 0) (G 12) (fun k => if k < G 0 4 then G 13 k else 0) (G 0 4) u = q + 1 := ⟨_ - 1, (Nat.sub_add_cancel (by omega)).symm⟩
    obtain ⟨y6, y5, y4, r, r1, r2, r3, r4, r5⟩ := m_lowest_24 (N := N) (n := G 0 4) (a := a1) (weight := mWeight) (priority := mPriority) (w := G 12) (p := fun k => if k < G 0 4 then G 13 k else 0) (wt := fun k => P 4 k == 0) g4 hp9 (fun k hk => ⟨(ml k hk).1, (gl k hk).2.1⟩) (fun k hk => by rw [if_pos hk]; exact (ml k hk).2) l4 (G 0 4) N u q 0 (by omega) (by omega) (by omega) hq
    have hBr : Best (fun k => P 4 k == 0) (G 12) (fun k => if k < G 0 4 then G 13 k else 0) (G 0 4) (G 10 b) r := by
      refine ⟨r2, by omega, fun s' h3 h4 => ?_, fun s' h3 h4 h5 => ?_⟩
      · have h6 := Cb_up (w := G 12) (p := fun k => if k < G 0 4 then G 13 k else 0) h3 rfl
        have h7 := u3 _ h4
        omega
      · have h6 := Cb_up (w := G 12) (p := fun k => if k < G 0 4 then G 13 k else 0) h3 rfl
        by_cases e : tot (G 0 4) (G 12) s' < u
        · have h7 := u4 _ e
          omega
        · by_cases e2 : tot (G 0 4) (G 12) s' = u
          · right; exact ⟨by omega, r5 s' h3 e2 (by omega)⟩
          · left; omega
    have hsr := Best_uni k2 hBr
    refine ⟨nI s, a', a1, ?_, ?_⟩
    · rw [k1, z_ob2]
    · rw [show nI 0 = 0 from rfl] at l1 l3 u2
      rw [l1, z_ob2, l3, z_ob2, u2, z_ob2]
      unfold f_X9_lowest
      have e1 : (1000 : Int32) * nI (G 0 4) + nI u = nI (1000 * G 0 4 + u) := by rw [show (1000 : Int32) = nI 1000 from rfl, z_mul, z_add]
      rw [e1, z_gIx (by omega) (by omega), z_cl (by omega), l4 (G 0 4) u (by omega) (by omega), hq, nI_pred]
      rw [show nI 0 = 0 from rfl] at r1
      rw [r1, z_ob4, z_ob1, Nat.zero_or, hsr]
  · exact ⟨_, _, _, if_neg hr, by rw [z_gIx (by omega) (by omega), if_neg hr]⟩
