variable {G : Nat → Nat → Nat} {regions balloons letters loft start seed count turnCount : Int32} {risk distance comeback capacity pigeons weight priority turnFrom turnTo follow land aimCount aim : Nat → Int32} {mLoft mStart mSeed : Int32} {mRegions mRisk mDistance mBack mWinds mNamed mNR mNW mTurns mTF mTT mTW mBalloons mRoom mPigeons mLetters mWeight mPriority : Nat → Int32}
variable {P : Nat → Nat → Nat} {T : Nat} {day wind loftN lost lc jc : Int32} {ds : Int64} {jk jn jd bst br cg lt an ho du la mNow : Nat → Int32}
variable {N mu q : Nat} {day2 wind2 loftN2 lost2 lc2 jc2 : Int32} {ds2 : Int64} {jk2 jn2 jd2 bst2 br2 cg2 lt2 an2 ho2 du2 la2 : Nat → Int32}
theorem z_ob16 {a1 a2 a3 a4 a5 a6 a7 a8 a9 a10 a11 a12 a13 a14 a15 a16 γ : Type} {k : a1 → a2 → a3 → a4 → a5 → a6 → a7 → a8 → a9 → a10 → a11 → a12 → a13 → a14 → a15 → a16 → Option γ} {v1 : a1} {v2 : a2} {v3 : a3} {v4 : a4} {v5 : a5} {v6 : a6} {v7 : a7} {v8 : a8} {v9 : a9} {v10 : a10} {v11 : a11} {v12 : a12} {v13 : a13} {v14 : a14} {v15 : a15} {v16 : a16} : ob16 (some (v1, v2, v3, v4, v5, v6, v7, v8, v9, v10, v11, v12, v13, v14, v15, v16)) k = k v1 v2 v3 v4 v5 v6 v7 v8 v9 v10 v11 v12 v13 v14 v15 v16 := rfl
/-- a block of the history and a row of the model -/
def RSv (G : Nat → Nat → Nat) (T : Nat) (v : SV) (now : Nat → Int32) : Prop := RSx G T v.1 v.2.1 v.2.2.1 v.2.2.2.1 v.2.2.2.2.1 v.2.2.2.2.2.1 v.2.2.2.2.2.2.1 v.2.2.2.2.2.2.2.1 v.2.2.2.2.2.2.2.2.1 v.2.2.2.2.2.2.2.2.2.1 v.2.2.2.2.2.2.2.2.2.2.1 v.2.2.2.2.2.2.2.2.2.2.2.1 v.2.2.2.2.2.2.2.2.2.2.2.2.1 v.2.2.2.2.2.2.2.2.2.2.2.2.2.1 v.2.2.2.2.2.2.2.2.2.2.2.2.2.2.1 v.2.2.2.2.2.2.2.2.2.2.2.2.2.2.2.1 v.2.2.2.2.2.2.2.2.2.2.2.2.2.2.2.2.1 v.2.2.2.2.2.2.2.2.2.2.2.2.2.2.2.2.2 now
theorem RSv.now {v : SV} {now now' : Nat → Int32} (hG : WF G) (h : RSv G T v now) (e : ∀ k, k < 213 → now' k = now k) : RSv G T v now' :=
  RSx.congr hG h (fun _ _ => rfl) (fun _ _ => rfl) (fun _ _ => rfl) (fun _ _ => rfl) (fun _ _ => rfl) (fun _ _ => rfl) (fun _ _ => rfl) (fun _ _ => rfl) (fun _ _ => rfl) (fun _ _ => rfl) (fun _ _ => rfl) e
theorem RSv.mono {v : SV} {now : Nat → Int32} {T' : Nat} (hT : T ≤ T') (h : RSv G T v now) : RSv G T' v now := RSx.mono hT h
/-- the history: mu states, the newest at q -/
def HR (G : Nat → Nat → Nat) (T mu q : Nat) (hist : Nat → SV) (undo : Nat → Int32) : Prop := mu ≤ 12 ∧ q < 12 ∧ ∀ i, i < mu → RSv G T (hist ((q + 12 - (mu - 1 - i)) % 12)) (fun k => undo (213 * i + k))
theorem HR.mono {hist : Nat → SV} {undo : Nat → Int32} {T' : Nat} (hT : T ≤ T') (h : HR G T mu q hist undo) : HR G T' mu q hist undo := ⟨h.1, h.2.1, fun i hi => (h.2.2 i hi).mono hT⟩
def nxM (mu : Nat) : Nat := if mu = 12 then 12 else mu + 1
def nxQ (q : Nat) : Nat := if q = 11 then 0 else q + 1
theorem HR.keep {hist : Nat → SV} {undo undo' now : Nat → Int32} {v : SV} (hG : WF G) (h : HR G T mu q hist undo) (hv : RSv G T v now) (hu : ∀ i k, i < (if mu = 12 then 12 else mu + 1) → k < 213 → undo' (213 * i + k) = if i + 1 = (if mu = 12 then 12 else mu + 1) then now k else undo (213 * (if mu = 12 then i + 1 else i) + k)) : HR G T (nxM mu) (nxQ q) (va_up hist (nxQ q) v) undo' := by
  obtain ⟨h1, h2, h3⟩ := h
  refine ⟨by unfold nxM; split <;> omega, by unfold nxQ; split <;> omega, fun i hi => ?_⟩
  have hu := fun k => hu i k hi
  have hM : (mu = 12 ∧ nxM mu = 12) ∨ (mu < 12 ∧ nxM mu = mu + 1) := by
    by_cases e : mu = 12
    · exact Or.inl ⟨e, if_pos e⟩
    · exact Or.inr ⟨by omega, if_neg e⟩
  have hQ : (q = 11 ∧ nxQ q = 0) ∨ (q < 11 ∧ nxQ q = q + 1) := by
    by_cases e : q = 11
    · exact Or.inl ⟨e, if_pos e⟩
    · exact Or.inr ⟨by omega, if_neg e⟩
  by_cases e1 : i + 1 = nxM mu
  · have e2 : (nxQ q + 12 - (nxM mu - 1 - i)) % 12 = nxQ q := by omega
    rw [e2]
    have e3 : va_up hist (nxQ q) v (nxQ q) = v := by unfold va_up; rw [if_pos rfl]
    rw [e3]
    exact hv.now hG (fun k hk => by rw [hu k hk]; exact if_pos e1)
  · have hne : (nxQ q + 12 - (nxM mu - 1 - i)) % 12 ≠ nxQ q := by omega
    have e3 : va_up hist (nxQ q) v ((nxQ q + 12 - (nxM mu - 1 - i)) % 12) = hist ((nxQ q + 12 - (nxM mu - 1 - i)) % 12) := by unfold va_up; rw [if_neg hne]
    rw [e3]
    by_cases e4 : mu = 12
    · have e5 : (nxQ q + 12 - (nxM mu - 1 - i)) % 12 = (q + 12 - (mu - 1 - (i + 1))) % 12 := by omega
      have hi2 : i + 1 < mu := by omega
      rw [e5]
      exact (h3 (i + 1) hi2).now hG (fun k hk => by rw [hu k hk, if_neg (show ¬ i + 1 = (if mu = 12 then 12 else mu + 1) from e1), if_pos e4])
    · have e5 : (nxQ q + 12 - (nxM mu - 1 - i)) % 12 = (q + 12 - (mu - 1 - i)) % 12 := by omega
      have hi2 : i < mu := by omega
      rw [e5]
      exact (h3 i hi2).now hG (fun k hk => by rw [hu k hk, if_neg (show ¬ i + 1 = (if mu = 12 then 12 else mu + 1) from e1), if_neg e4])
theorem e_remember (hG : WF G) (h : RSx G T day wind loftN lost lc ds jc jk jn jd bst br cg lt an ho du la mNow) (hmu : mu ≤ 12) (hq : q < 12) : ∃ a1 a2 a3 a4 a5 a6 a7 a8 a9 a10 a11, f_X8_rememberState N (nI mu) (nI q) day wind loftN lost lc ds jc jk jk2 jn jn2 jd jd2 bst bst2 br br2 cg cg2 lt lt2 an an2 ho ho2 du du2 la la2 = some (nI (nxM mu), nI (nxQ q), day, wind, loftN, lost, lc, ds, jc, a1, a2, a3, a4, a5, a6, a7, a8, a9, a10, a11) ∧ RSv G T (day, wind, loftN, lost, lc, ds, jc, a1, a2, a3, a4, a5, a6, a7, a8, a9, a10, a11) mNow := by
  obtain ⟨a1, a2, a3, a4, a5, a6, a7, a8, a9, a10, a11, p1, p2⟩ := e_copyFrom (N := N) (jk2 := jk2) (jn2 := jn2) (jd2 := jd2) (bst2 := bst2) (br2 := br2) (cg2 := cg2) (lt2 := lt2) (an2 := an2) (ho2 := ho2) (du2 := du2) (la2 := la2) hG h (fun _ _ => rfl)
  refine ⟨a1, a2, a3, a4, a5, a6, a7, a8, a9, a10, a11, ?_, p2⟩
  have e1 : ((11 : Int32) ≤ nI q) = (11 ≤ q) := z_le (a := 11) (by omega) (by omega)
  have e2 : ((12 : Int32) ≤ nI mu) = (12 ≤ mu) := z_le (a := 12) (by omega) (by omega)
  have e0 : (nI q < (0 : Int32)) = (q < 0) := z_lt (b := 0) (by omega) (by omega)
  have h0 : ¬ nI q < (0 : Int32) := by rw [e0]; omega
  unfold f_X8_rememberState
  rw [if_neg h0, p1, z_ob18, z_ob18, nI_1, nI_1]
  simp only [e1, e2]
  by_cases h1 : 11 ≤ q
  · have eQ : nxQ q = 0 := if_pos (by omega)
    rw [if_pos h1, eQ, z_gI0 (by omega) (by omega)]
    by_cases h2 : 12 ≤ mu
    · have eM : nxM mu = mu := by unfold nxM; rw [if_pos (by omega)]; omega
      rw [if_pos h2, eM]; rfl
    · have eM : nxM mu = mu + 1 := if_neg (by omega)
      rw [if_neg h2, eM]; rfl
  · have eQ : nxQ q = q + 1 := if_neg (by omega)
    rw [if_neg h1, eQ, z_gIx (by omega) (by omega)]
    by_cases h2 : 12 ≤ mu
    · have eM : nxM mu = mu := by unfold nxM; rw [if_pos (by omega)]; omega
      rw [if_pos h2, eM]
    · have eM : nxM mu = mu + 1 := if_neg (by omega)
      rw [if_neg h2, eM]
theorem e_nextDay {hist : Nat → SV} {undo : Nat → Int32} (hN : 3000 < N) (hT : T ≤ 1000) (hG : WF G) (hc : RGc G regions balloons letters loft start seed count turnCount risk distance comeback capacity pigeons weight priority turnFrom turnTo follow land aimCount aim) (hm : RGm G mLoft mStart mSeed mRegions mRisk mDistance mBack mWinds mNamed mNR mNW mTurns mTF mTT mTW mBalloons mRoom mPigeons mLetters mWeight mPriority) (h : RSx G T day wind loftN lost lc ds jc jk jn jd bst br cg lt an ho du la mNow) (hh : HR G T mu q hist undo) : ∃ r day' wind' loft' ds' jc' jk' jn' jd' ho' lt' an' now' undo' a1 a2 a3 a4 a5 a6 a7 a8 a9 a10 a11, f_X8_nextDay N (nI mu) (nI q) day wind loftN lost lc ds jc jk jk2 jn jn2 jd jd2 bst bst2 br br2 cg cg2 lt lt2 an an2 ho ho2 du du2 la la2 balloons letters count turnCount turnFrom turnTo follow = some (r, nI (nxM mu), nI (nxQ q), day, wind, loftN, lost, lc, ds, day', wind', loft', ds', jc', jc, jk', a1, jn', a2, jd', a3, a4, a5, a6, lt', a7, an', a8, ho', a9, a10, a11) ∧ f_X9_nextDay N (nI mu) undo mNow mWinds mTurns mTF mTW mTT mLetters = some (r, 0, nI (nxM mu), undo', now') ∧ RSx G (T + 1) day' wind' loft' lost lc ds' jc' jk' jn' jd' bst br cg lt' an' ho' du la now' ∧ HR G (T + 1) (nxM mu) (nxQ q) (va_up hist (nxQ q) (day, wind, loftN, lost, lc, ds, jc, a1, a2, a3, a4, a5, a6, a7, a8, a9, a10, a11)) undo' := by
  obtain ⟨a1, a2, a3, a4, a5, a6, a7, a8, a9, a10, a11, p1, p2⟩ := e_remember (N := N) (jk2 := jk2) (jn2 := jn2) (jd2 := jd2) (bst2 := bst2) (br2 := br2) (cg2 := cg2) (lt2 := lt2) (an2 := an2) (ho2 := ho2) (du2 := du2) (la2 := la2) hG h hh.1 hh.2.1
  obtain ⟨undo', k1, k2⟩ := m_keeps (N := N) (undo := undo) (now := mNow) hN hh.1
  obtain ⟨P, hn, hj, hb, hl, ha, hf, hi⟩ := h
  obtain ⟨P', day', wind', loft', ds', jc', jk', jn', jd', ho', lt', an', now', q1, q2, q3⟩ := e_passDay (N := N) (nI (nxM mu)) undo' hN hT hG hc hm hn hj hb hl ha hf hi
  refine ⟨wind', day', wind', loft', ds', jc', jk', jn', jd', ho', lt', an', now', undo', a1, a2, a3, a4, a5, a6, a7, a8, a9, a10, a11, ?_, ?_, ⟨P', q3⟩, (hh.keep hG p2 k2).mono (by omega)⟩
  · unfold f_X8_nextDay
    rw [p1, z_ob20, q1, z_ob11]
  · unfold f_X9_nextDay
    rw [k1, z_ob2]
    exact q2
theorem e_launch {hist : Nat → SV} {undo : Nat → Int32} (hN : 3000 < N) (hT : T ≤ 1000) (hG : WF G) (hc : RGc G regions balloons letters loft start seed count turnCount risk distance comeback capacity pigeons weight priority turnFrom turnTo follow land aimCount aim) (hm : RGm G mLoft mStart mSeed mRegions mRisk mDistance mBack mWinds mNamed mNR mNW mTurns mTF mTT mTW mBalloons mRoom mPigeons mLetters mWeight mPriority) (h : RSx G T day wind loftN lost lc ds jc jk jn jd bst br cg lt an ho du la mNow) (hh : HR G T mu q hist undo) (x1 x2 : Int32) :
    (∃ r, f_X8_launch N (nI mu) (nI q) regions balloons letters day wind loftN lost lc ds lt bst count weight capacity pigeons day2 wind2 loftN2 lost2 lc2 ds2 jc jc2 jk jk2 jn jn2 jd jd2 bst2 br br2 cg cg2 lt2 an an2 ho ho2 du du2 la la2 aimCount aim land risk distance comeback x1 x2 = some (r, nI mu, nI q, loftN, lost, lc, ds, lt, bst, day2, wind2, loftN2, lost2, lc2, ds2, jc, jc2, jk, jk2, jn, jn2, jd, jd2, bst2, br, br2, cg, cg2, lt2, an2, ho, ho2, du, du2, la, la2) ∧ f_X9_launch N (nI mu) mBalloons mLetters mNow mWinds mWeight mRoom mPigeons undo mNamed mNW mNR mBack mDistance mRisk x1 x2 = some (r, 0, nI mu, mNow, undo)) ∨
    (∃ r loft' lost' lc' ds' lt' bst' jc' jk' jn' jd' br' cg' ho' du' la' now' undo' a1 a2 a3 a4 a5 a6 a7 a8 a9 a10 a11, f_X8_launch N (nI mu) (nI q) regions balloons letters day wind loftN lost lc ds lt bst count weight capacity pigeons day2 wind2 loftN2 lost2 lc2 ds2 jc jc2 jk jk2 jn jn2 jd jd2 bst2 br br2 cg cg2 lt2 an an2 ho ho2 du du2 la la2 aimCount aim land risk distance comeback x1 x2 = some (r, nI (nxM mu), nI (nxQ q), loft', lost', lc', ds', lt', bst', day, wind, loftN, lost, lc, ds, jc', jc, jk', a1, jn', a2, jd', a3, a4, br', a5, cg', a6, a7, a8, ho', a9, du', a10, la', a11) ∧ f_X9_launch N (nI mu) mBalloons mLetters mNow mWinds mWeight mRoom mPigeons undo mNamed mNW mNR mBack mDistance mRisk x1 x2 = some (r, 0, nI (nxM mu), now', undo') ∧ RSx G T day wind loft' lost' lc' ds' jc' jk' jn' jd' bst' br' cg' lt' an ho' du' la' now' ∧ HR G T (nxM mu) (nxQ q) (va_up hist (nxQ q) (day, wind, loftN, lost, lc, ds, jc, a1, a2, a3, a4, a5, a6, a7, a8, a9, a10, a11)) undo') := by
  obtain ⟨a1, a2, a3, a4, a5, a6, a7, a8, a9, a10, a11, p1, p2⟩ := e_remember (N := N) (jk2 := jk2) (jn2 := jn2) (jd2 := jd2) (bst2 := bst2) (br2 := br2) (cg2 := cg2) (lt2 := lt2) (an2 := an2) (ho2 := ho2) (du2 := du2) (la2 := la2) hG h hh.1 hh.2.1
  obtain ⟨undo', k1, k2⟩ := m_keeps (N := N) (undo := undo) (now := mNow) hN hh.1
  have hib := z_isB (N := N) hm hG x1
  have hmb := hm
  have hcb := hc
  obtain ⟨P, hn, hj, hb, hl, ha, hf, hi⟩ := h
  have hG' := hG
  obtain ⟨⟨g0, g1, g2, g3, g4, g5, g6, g7⟩, gr, ⟨gna, gn1, gn2, gn3⟩, ⟨gt1, gt2, gt3⟩, gb, gl⟩ := hG
  obtain ⟨⟨c1, c2, c3, c4, c5, c6, c7, c8⟩, cr, cb, cl, ct, cf, cla, cac, cai⟩ := hc
  obtain ⟨⟨m0, m1, m2, m3, m4, m5, m6, m7⟩, mr, mb, ml, mt, mna, mnr⟩ := hm
  have hp24 := z_p24 g4
  have hal := z_areLs (N := N) g4 m4 x2
  have hls := z_hasLs (N := N) g4 x2
  by_cases h1 : x1 < 0 ∨ nI (G 0 3) ≤ x1
  · refine Or.inl ⟨-1, ?_, ?_⟩
    · unfold f_X8_launch
      rw [c2, z_hasB, z_ob1]
      simp only [z_01]
      rw [if_pos h1]
    · unfold f_X9_launch
      rw [hib, z_ob1]
      simp only [z_01]
      rw [if_pos h1]
  by_cases h2 : x2 < 0 ∨ nI (2 ^ G 0 4) ≤ x2
  · refine Or.inl ⟨-1, ?_, ?_⟩
    · unfold f_X8_launch
      rw [c2, z_hasB, z_ob1, c3, hls, z_ob1]
      simp only [z_01]
      rw [if_neg h1, if_pos h2]
    · unfold f_X9_launch
      rw [hib, z_ob1, hal, z_ob1]
      simp only [z_01]
      rw [if_neg h1, if_pos h2]
  have hbx := z_j (by omega) h1
  obtain ⟨b, hb1, rfl⟩ := hbx
  have hsx := z_j (by omega) h2
  obtain ⟨s, hs1, rfl⟩ := hsx
  obtain ⟨b1, b2, b3⟩ := hb.1 b (by omega)
  have e0 : (nI (P 6 b) = 0) = (P 6 b = 0) := z_eq (b := 0) (by omega) (by omega)
  have a5_ : (5 : Int32) + nI b = nI (5 + b) := by rw [show (5 : Int32) = nI 5 from rfl, z_add]
  have hbs := bs_lt (fun k => P 4 k == 0) (G 0 4)
  have hin := m_inState (N := N) (s := 0) (letters := mLetters) (now := mNow) (f := P 4) (by omega) g4 (by omega) m4 hl.2.1
  rw [show nI 0 = 0 from rfl] at hin
  have hl0 := hl.1 0 (by omega)
  have hx : s ^^^ (s &&& bs (G 0 4) (fun k => P 4 k == 0)) < 2 ^ 31 := Nat.lt_of_lt_of_le (Nat.xor_lt_two_pow (n := 24) (by omega) (Nat.and_lt_two_pow _ (by omega))) (by omega)
  have ew : (nI s &&& (nI (bs (G 0 4) (fun k => P 4 k == 0)) ^^^ (-1)) = 0) = (s ^^^ (s &&& bs (G 0 4) (fun k => P 4 k == 0)) = 0) := by
    rw [z_andn]; exact z_eq (b := 0) hx (by omega)
  have ecn : ((count : Int32) = 0) = (G 0 1 = 0) := by rw [c7]; exact z_eq (b := 0) (by omega) (by omega)
  have ewn : (nI (G 0 1) = 0) = (G 0 1 = 0) := z_eq (b := 0) (by omega) (by omega)
  have htot := s_total (N := N) (n := G 0 4) (s := s) (y := weight) (w := G 12) (by omega) g4 (by omega) (fun k hk => (cl k hk).1)
  have hsum := m_sumOf (N := N) (n := G 0 4) (s := s) (M := 48) (letters := mLetters) (y := mWeight) (w := G 12) (by omega) (by omega) (by omega) g4 (by omega) m4 (fun k hk => (ml k hk).1)
  have htl := tot_le (w := G 12) (M := 99) (i := G 0 4) (s := s) (fun k hk => (gl k hk).2.1)
  have h99 : G 0 4 * 99 ≤ 24 * 99 := Nat.mul_le_mul_right 99 g4
  obtain ⟨q1, q2, q3⟩ := gb b hb1
  have ele : (nI (tot (G 0 4) (G 12) s) ≤ nI (G 10 b)) = (tot (G 0 4) (G 12) s ≤ G 10 b) := z_le (by omega) (by omega)
  have e3r : (mNow (5 + nI b).toNatClampNeg = 0) = (P 6 b = 0) := by rw [a5_, z_cl (by omega), b2, e0]
  have e5r : (mWinds (0 : Int32).toNatClampNeg = 0) = (G 0 1 = 0) := by rw [z_c0, m1, ewn]
  have e6r : (nI (tot (G 0 4) (G 12) s) ≤ mRoom (nI b).toNatClampNeg) = (tot (G 0 4) (G 12) s ≤ G 10 b) := by rw [z_cl (by omega), (mb b hb1).1, ele]
  have e7r : (mPigeons (nI b).toNatClampNeg ≤ mNow (3 : Int32).toNatClampNeg) = (nI (G 11 b) ≤ loftN) := by rw [z_cl (by omega), (mb b hb1).2, show (3 : Int32).toNatClampNeg = 3 from rfl, hn.2.2.2.1]
  by_cases h3 : P 6 b = 0
  rotate_left
  · refine Or.inl ⟨-2, ?_, ?_⟩
    · unfold f_X8_launch f_X8_launch_j45
      rw [c2, z_hasB, z_ob1, c3, hls, z_ob1]
      simp only [z_01]
      rw [if_neg h1, if_neg h2, z_gI0 (by omega) (by omega), z_c0, hl0]
      simp only [ew]
      simp (disch := omega) only [z_gIx, z_cl, b1, e0, ecn, htot, z_ob1, (cb b hb1).1, (cb b hb1).2, ele]
      simp only [if_neg h3, ite_self]
    · unfold f_X9_launch
      rw [hib, z_ob1, hal, z_ob1]
      simp only [z_01]
      rw [if_neg h1, if_neg h2, z_gIe (n := 213) a5_ (by omega) (by omega)]
      rw [if_neg (show ¬ mNow (5 + nI b).toNatClampNeg = 0 by rw [e3r]; exact h3)]
  by_cases h4 : s ^^^ (s &&& bs (G 0 4) (fun k => P 4 k == 0)) = 0
  rotate_left
  · refine Or.inl ⟨-2, ?_, ?_⟩
    · unfold f_X8_launch f_X8_launch_j45
      rw [c2, z_hasB, z_ob1, c3, hls, z_ob1]
      simp only [z_01]
      rw [if_neg h1, if_neg h2, z_gI0 (by omega) (by omega), z_c0, hl0]
      simp only [ew]
      simp (disch := omega) only [z_gIx, z_cl, b1, e0, ecn, htot, z_ob1, (cb b hb1).1, (cb b hb1).2, ele]
      rw [if_neg h4, if_pos h3, if_pos trivial]
    · unfold f_X9_launch
      rw [hib, z_ob1, hal, z_ob1]
      simp only [z_01]
      rw [if_neg h1, if_neg h2, z_gIe (n := 213) a5_ (by omega) (by omega)]
      rw [if_pos (show mNow (5 + nI b).toNatClampNeg = 0 by rw [e3r]; exact h3), hin, z_ob1, if_neg (show ¬ nI s &&& (nI (bs (G 0 4) (fun k => P 4 k == 0)) ^^^ (-1)) = 0 by rw [ew]; exact h4)]
  by_cases h5 : G 0 1 = 0
  · refine Or.inl ⟨-2, ?_, ?_⟩
    · unfold f_X8_launch f_X8_launch_j45
      rw [c2, z_hasB, z_ob1, c3, hls, z_ob1]
      simp only [z_01]
      rw [if_neg h1, if_neg h2, z_gI0 (by omega) (by omega), z_c0, hl0]
      simp only [ew]
      simp (disch := omega) only [z_gIx, z_cl, b1, e0, ecn, htot, z_ob1, (cb b hb1).1, (cb b hb1).2, ele]
      rw [if_pos h4, if_pos h3, if_neg (show ¬ (1 : Int32) = 0 by decide), if_pos h5]
    · unfold f_X9_launch
      rw [hib, z_ob1, hal, z_ob1]
      simp only [z_01]
      rw [if_neg h1, if_neg h2, z_gIe (n := 213) a5_ (by omega) (by omega)]
      rw [if_pos (show mNow (5 + nI b).toNatClampNeg = 0 by rw [e3r]; exact h3), hin, z_ob1, if_pos (show nI s &&& (nI (bs (G 0 4) (fun k => P 4 k == 0)) ^^^ (-1)) = 0 by rw [ew]; exact h4), z_gI0 (by omega) (by omega), if_pos (show mWinds (0 : Int32).toNatClampNeg = 0 by rw [e5r]; exact h5)]
  by_cases h6 : tot (G 0 4) (G 12) s ≤ G 10 b
  rotate_left
  · refine Or.inl ⟨-3, ?_, ?_⟩
    · unfold f_X8_launch f_X8_launch_j45
      rw [c2, z_hasB, z_ob1, c3, hls, z_ob1]
      simp only [z_01]
      rw [if_neg h1, if_neg h2, z_gI0 (by omega) (by omega), z_c0, hl0]
      simp only [ew]
      simp (disch := omega) only [z_gIx, z_cl, b1, e0, ecn, htot, z_ob1, (cb b hb1).1, (cb b hb1).2, ele]
      rw [if_pos h4, if_pos h3, if_neg (show ¬ (1 : Int32) = 0 by decide), if_neg h5, if_neg h6]
    · unfold f_X9_launch
      rw [hib, z_ob1, hal, z_ob1]
      simp only [z_01]
      rw [if_neg h1, if_neg h2, z_gIe (n := 213) a5_ (by omega) (by omega)]
      rw [if_pos (show mNow (5 + nI b).toNatClampNeg = 0 by rw [e3r]; exact h3), hin, z_ob1, if_pos (show nI s &&& (nI (bs (G 0 4) (fun k => P 4 k == 0)) ^^^ (-1)) = 0 by rw [ew]; exact h4), z_gI0 (by omega) (by omega), if_neg (show ¬ mWinds (0 : Int32).toNatClampNeg = 0 by rw [e5r]; exact h5), hsum, z_ob1, z_gIx (i := b) (n := 20) (by omega) (by omega), if_neg (show ¬ nI (tot (G 0 4) (G 12) s) ≤ mRoom (nI b).toNatClampNeg by rw [e6r]; exact h6)]
  by_cases h7 : nI (G 11 b) ≤ loftN
  rotate_left
  · refine Or.inl ⟨-4, ?_, ?_⟩
    · unfold f_X8_launch f_X8_launch_j45
      rw [c2, z_hasB, z_ob1, c3, hls, z_ob1]
      simp only [z_01]
      rw [if_neg h1, if_neg h2, z_gI0 (by omega) (by omega), z_c0, hl0]
      simp only [ew]
      simp (disch := omega) only [z_gIx, z_cl, b1, e0, ecn, htot, z_ob1, (cb b hb1).1, (cb b hb1).2, ele]
      rw [if_pos h4, if_pos h3, if_neg (show ¬ (1 : Int32) = 0 by decide), if_neg h5, if_pos h6, if_neg h7]
    · unfold f_X9_launch
      rw [hib, z_ob1, hal, z_ob1]
      simp only [z_01]
      rw [if_neg h1, if_neg h2, z_gIe (n := 213) a5_ (by omega) (by omega)]
      rw [if_pos (show mNow (5 + nI b).toNatClampNeg = 0 by rw [e3r]; exact h3), hin, z_ob1, if_pos (show nI s &&& (nI (bs (G 0 4) (fun k => P 4 k == 0)) ^^^ (-1)) = 0 by rw [ew]; exact h4), z_gI0 (by omega) (by omega), if_neg (show ¬ mWinds (0 : Int32).toNatClampNeg = 0 by rw [e5r]; exact h5), hsum, z_ob1, z_gIx (i := b) (n := 20) (by omega) (by omega), if_pos (show nI (tot (G 0 4) (G 12) s) ≤ mRoom (nI b).toNatClampNeg by rw [e6r]; exact h6), z_gIe (x := 3) (i := 3) (n := 213) rfl (by omega) (by omega), z_gIx (i := b) (n := 20) (by omega) (by omega), if_neg (show ¬ mPigeons (nI b).toNatClampNeg ≤ mNow (3 : Int32).toNatClampNeg by rw [e7r]; exact h7)]
  have s2 : ∀ k, k < G 0 4 → s.testBit k = true → P 4 k = 0 := by
    intro k hk hbit
    have ex : s = s &&& bs (G 0 4) (fun k => P 4 k == 0) := by
      apply Nat.eq_of_testBit_eq
      intro i
      have := congrArg (fun x => Nat.testBit x i) h4
      simp only [Nat.testBit_xor, Nat.zero_testBit] at this
      cases hA : s.testBit i <;> cases hB : (s &&& bs (G 0 4) (fun k => P 4 k == 0)).testBit i <;> simp_all
    have hbb : (s &&& bs (G 0 4) (fun k => P 4 k == 0)).testBit k = true := by rw [← ex]; exact hbit
    rw [Nat.testBit_and, bs_bit] at hbb
    simp at hbb
    exact hbb.2.2
  obtain ⟨P', fate, loft', lost', lc', ds', la', bst', br', cg', lt', jc', jk', jn', jd', du', ho', now', w1, w2, w3⟩ := e_fly (N := N) (b := b) (s := s) (nI (nxM mu)) undo' hN hT hG' hcb hmb hn hj hb hl ha hf hi hb1 h3 (by omega) s2 (by omega)
  refine Or.inr ⟨fate, loft', lost', lc', ds', lt', bst', jc', jk', jn', jd', br', cg', ho', du', la', now', undo', a1, a2, a3, a4, a5, a6, a7, a8, a9, a10, a11, ?_, ?_, ⟨P', w3⟩, hh.keep hG' p2 k2⟩
  · rw [c2] at w1
    unfold f_X8_launch f_X8_launch_j45
    rw [c2, z_hasB, z_ob1, c3, hls, z_ob1]
    simp only [z_01]
    rw [if_neg h1, if_neg h2, z_gI0 (by omega) (by omega), z_c0, hl0]
    simp only [ew]
    simp (disch := omega) only [z_gIx, z_cl, b1, e0, ecn, htot, z_ob1, (cb b hb1).1, (cb b hb1).2, ele]
    rw [if_pos h4, if_pos h3, if_neg (show ¬ (1 : Int32) = 0 by decide), if_neg h5, if_pos h6, if_pos h7, p1, z_ob20, w1, z_ob16]
  · unfold f_X9_launch
    rw [hib, z_ob1, hal, z_ob1]
    simp only [z_01]
    rw [if_neg h1, if_neg h2, z_gIe (n := 213) a5_ (by omega) (by omega)]
    rw [if_pos (show mNow (5 + nI b).toNatClampNeg = 0 by rw [e3r]; exact h3), hin, z_ob1, if_pos (show nI s &&& (nI (bs (G 0 4) (fun k => P 4 k == 0)) ^^^ (-1)) = 0 by rw [ew]; exact h4), z_gI0 (by omega) (by omega), if_neg (show ¬ mWinds (0 : Int32).toNatClampNeg = 0 by rw [e5r]; exact h5), hsum, z_ob1, z_gIx (i := b) (n := 20) (by omega) (by omega), if_pos (show nI (tot (G 0 4) (G 12) s) ≤ mRoom (nI b).toNatClampNeg by rw [e6r]; exact h6), z_gIe (x := 3) (i := 3) (n := 213) rfl (by omega) (by omega), z_gIx (i := b) (n := 20) (by omega) (by omega), if_pos (show mPigeons (nI b).toNatClampNeg ≤ mNow (3 : Int32).toNatClampNeg by rw [e7r]; exact h7), k1, z_ob2]
    exact w2
theorem e_undo {hist : Nat → SV} {undo : Nat → Int32} (hN : 3000 < N) (hG : WF G) (hh : HR G T mu q hist undo) (hq : hist q = (day2, wind2, loftN2, lost2, lc2, ds2, jc2, jk2, jn2, jd2, bst2, br2, cg2, lt2, an2, ho2, du2, la2)) :
    (mu = 0 ∧ f_X8_undo N (nI mu) (nI q) day wind loftN lost lc ds day2 wind2 loftN2 lost2 lc2 ds2 jc2 jc jk2 jk jn2 jn jd2 jd bst2 bst br2 br cg2 cg lt2 lt an2 an ho2 ho du2 du la2 la = some (0, nI mu, nI q, day, wind, loftN, lost, lc, ds, jc, jk, jn, jd, bst, br, cg, lt, an, ho, du, la) ∧ f_X9_undo N (nI mu) undo mNow = some (0, 0, nI mu, mNow)) ∨
    (∃ a1 a2 a3 a4 a5 a6 a7 a8 a9 a10 a11 now' mu' q', f_X8_undo N (nI mu) (nI q) day wind loftN lost lc ds day2 wind2 loftN2 lost2 lc2 ds2 jc2 jc jk2 jk jn2 jn jd2 jd bst2 bst br2 br cg2 cg lt2 lt an2 an ho2 ho du2 du la2 la = some (1, nI mu', nI q', day2, wind2, loftN2, lost2, lc2, ds2, jc2, a1, a2, a3, a4, a5, a6, a7, a8, a9, a10, a11) ∧ f_X9_undo N (nI mu) undo mNow = some (1, 0, nI mu', now') ∧ RSx G T day2 wind2 loftN2 lost2 lc2 ds2 jc2 a1 a2 a3 a4 a5 a6 a7 a8 a9 a10 a11 now' ∧ HR G T mu' q' hist undo) := by
  obtain ⟨h1, h2, h3⟩ := hh
  have e0 : (nI mu = 0) = (mu = 0) := z_eq (b := 0) (by omega) (by omega)
  have e1 : (nI mu ≤ 0) = (mu ≤ 0) := z_le (b := 0) (by omega) (by omega)
  have e3 : (nI q < (0 : Int32)) = (q < 0) := z_lt (b := 0) (by omega) (by omega)
  have e4 : (nI q < (12 : Int32)) = (q < 12) := z_lt (b := 12) (by omega) (by omega)
  have e2 : (nI q ≤ 0) = (q ≤ 0) := z_le (b := 0) (by omega) (by omega)
  unfold f_X8_undo f_X9_undo
  simp only [e0, e1]
  by_cases h : mu = 0
  · left
    rw [if_pos h, if_pos (show mu ≤ 0 by omega)]; exact ⟨h, rfl, rfl⟩
  · right
    obtain ⟨m', rfl⟩ : ∃ m', mu = m' + 1 := ⟨mu - 1, by omega⟩
    have hr := h3 m' (by omega)
    rw [show (q + 12 - (m' + 1 - 1 - m')) % 12 = q by omega, hq] at hr
    obtain ⟨now', p1, p2⟩ := m_cp (N := N) (a := 213 * m') (b := 0) (m := 213) (sz := 2556) (sy := 213) (by omega) (by omega) (by omega) (by omega) hN (by omega) undo mNow
    obtain ⟨a1, a2, a3, a4, a5, a6, a7, a8, a9, a10, a11, r1, r2⟩ := e_copyFrom (N := N) (mNow' := now') (jk := jk2) (jk2 := jk) (jn := jn2) (jn2 := jn) (jd := jd2) (jd2 := jd) (bst := bst2) (bst2 := bst) (br := br2) (br2 := br) (cg := cg2) (cg2 := cg) (lt := lt2) (lt2 := lt) (an := an2) (an2 := an) (ho := ho2) (ho2 := ho) (du := du2) (du2 := du) (la := la2) (la2 := la) hG hr (fun k hk => by rw [p2, if_pos (by omega)]; exact congrArg undo (by omega))
    rw [if_neg h, if_neg (show ¬ m' + 1 ≤ 0 by omega), if_neg (show ¬ nI q < (0 : Int32) by rw [e3]; omega), if_pos (show nI q < (12 : Int32) by rw [e4]; omega), z_gIx (by omega) (by omega), r1, z_ob18, nI_pred, show (213 : Int32) * nI m' = nI (213 * m') from by rw [show (213 : Int32) = nI 213 from rfl, z_mul]]
    rw [show nI 0 = 0 from rfl, show nI 213 = 213 from rfl] at p1
    rw [p1, z_ob1]
    simp only [e2]
    by_cases hq0 : q ≤ 0
    · rw [if_pos hq0]
      refine ⟨a1, a2, a3, a4, a5, a6, a7, a8, a9, a10, a11, now', m', 11, rfl, rfl, r2, by omega, by omega, fun i hi => ?_⟩
      have := h3 i (by omega)
      rw [show (q + 12 - (m' + 1 - 1 - i)) % 12 = (11 + 12 - (m' - 1 - i)) % 12 by omega] at this
      exact this
    · obtain ⟨q', rfl⟩ : ∃ q', q = q' + 1 := ⟨q - 1, by omega⟩
      rw [if_neg hq0, nI_pred]
      refine ⟨a1, a2, a3, a4, a5, a6, a7, a8, a9, a10, a11, now', m', q', rfl, rfl, r2, by omega, by omega, fun i hi => ?_⟩
      have := h3 i (by omega)
      rw [show (q' + 1 + 12 - (m' + 1 - 1 - i)) % 12 = (q' + 12 - (m' - 1 - i)) % 12 by omega] at this
      exact this
/-- the snapshots -/
def SL (G : Nat → Nat → Nat) (T : Nat) (slots : Nat → SV) (sf ms sv : Nat → Int32) : Prop := ∀ s, s < 2 → (sf s = 0 ∧ sv s = 0) ∨ (sf s = 1 ∧ sv s = 1 ∧ RSv G T (slots s) (fun k => ms (213 * s + k)))
theorem SL.mono {slots : Nat → SV} {sf ms sv : Nat → Int32} {T' : Nat} (hT : T ≤ T') (h : SL G T slots sf ms sv) : SL G T' slots sf ms sv := by
  intro s hs
  rcases h s hs with h1 | ⟨h1, h2, h3⟩
  · exact Or.inl h1
  · exact Or.inr ⟨h1, h2, h3.mono hT⟩
theorem z_isSl (x : Int32) : f_X8_isSlot N x = some (if x < 0 ∨ nI 2 ≤ x then 0 else 1) := z_has7 (N := N) (n := 2) x
theorem z_in2 (x : Int32) : f_X9_within N x 0 1 = some (if x < 0 ∨ nI 2 ≤ x then 0 else 1) := z_within' x 1 2 (by decide) (by decide)
theorem e_save {slots : Nat → SV} {sf ms sv : Nat → Int32} (hN : 3000 < N) (hG : WF G) (h : RSx G T day wind loftN lost lc ds jc jk jn jd bst br cg lt an ho du la mNow) (hs : SL G T slots sf ms sv) (x1 : Int32) :
    (f_X8_saveSnapshot N day2 wind2 loftN2 lost2 lc2 ds2 day wind loftN lost lc ds jc jc2 jk jk2 jn jn2 jd jd2 bst bst2 br br2 cg cg2 lt lt2 an an2 ho ho2 du du2 la la2 sf x1 = some (0, day2, wind2, loftN2, lost2, lc2, ds2, jc2, jk2, jn2, jd2, bst2, br2, cg2, lt2, an2, ho2, du2, la2, sf) ∧ f_X9_saveSnapshot N mNow ms sv x1 = some (0, 0, ms, sv) ∧ (x1 < 0 ∨ nI 2 ≤ x1)) ∨
    (∃ s a1 a2 a3 a4 a5 a6 a7 a8 a9 a10 a11 sf' ms' sv', s < 2 ∧ x1 = nI s ∧ f_X8_saveSnapshot N day2 wind2 loftN2 lost2 lc2 ds2 day wind loftN lost lc ds jc jc2 jk jk2 jn jn2 jd jd2 bst bst2 br br2 cg cg2 lt lt2 an an2 ho ho2 du du2 la la2 sf x1 = some (1, day, wind, loftN, lost, lc, ds, jc, a1, a2, a3, a4, a5, a6, a7, a8, a9, a10, a11, sf') ∧ f_X9_saveSnapshot N mNow ms sv x1 = some (1, 0, ms', sv') ∧ SL G T (va_up slots s (day, wind, loftN, lost, lc, ds, jc, a1, a2, a3, a4, a5, a6, a7, a8, a9, a10, a11)) sf' ms' sv') := by
  unfold f_X8_saveSnapshot f_X9_saveSnapshot
  rw [z_isSl, z_ob1, z_in2, z_ob1]
  simp only [z_01]
  by_cases h1 : x1 < 0 ∨ nI 2 ≤ x1
  · left
    rw [if_pos h1, if_pos h1]; exact ⟨rfl, rfl, h1⟩
  · right
    have hsx := z_j (by omega) h1
    obtain ⟨s, hs1, rfl⟩ := hsx
    obtain ⟨ms', p1, p2⟩ := m_cp (N := N) (a := 0) (b := 213 * s) (m := 213) (sz := 213) (sy := 426) (by omega) (by omega) (by omega) (by omega) hN (by omega) mNow ms
    obtain ⟨a1, a2, a3, a4, a5, a6, a7, a8, a9, a10, a11, r1, r2⟩ := e_copyFrom (N := N) (jk2 := jk2) (jn2 := jn2) (jd2 := jd2) (bst2 := bst2) (br2 := br2) (cg2 := cg2) (lt2 := lt2) (an2 := an2) (ho2 := ho2) (du2 := du2) (la2 := la2) hG h (fun _ _ => rfl)
    rw [if_neg h1, if_neg h1, z_gIx (by omega) (by omega), r1, z_ob18, z_gIx (by omega) (by omega), z_cl (by omega), show (213 : Int32) * nI s = nI (213 * s) from by rw [show (213 : Int32) = nI 213 from rfl, z_mul]]
    rw [show nI 0 = 0 from rfl, show nI 213 = 213 from rfl] at p1
    rw [p1, z_ob1, z_gIx (by omega) (by omega)]
    refine ⟨s, a1, a2, a3, a4, a5, a6, a7, a8, a9, a10, a11, _, ms', _, hs1, rfl, rfl, rfl, fun i hi => ?_⟩
    by_cases e1 : i = s
    · subst e1
      have e3 : va_up slots i (day, wind, loftN, lost, lc, ds, jc, a1, a2, a3, a4, a5, a6, a7, a8, a9, a10, a11) i = (day, wind, loftN, lost, lc, ds, jc, a1, a2, a3, a4, a5, a6, a7, a8, a9, a10, a11) := by unfold va_up; rw [if_pos rfl]
      refine Or.inr ⟨pk_us, pk_us, ?_⟩
      rw [e3]
      exact RSv.now hG r2 (fun k hk => by rw [p2, if_pos (by omega)]; exact congrArg mNow (by omega))
    · have e3 : va_up slots s (day, wind, loftN, lost, lc, ds, jc, a1, a2, a3, a4, a5, a6, a7, a8, a9, a10, a11) i = slots i := by unfold va_up; rw [if_neg e1]
      rw [pk_un e1, pk_un e1, e3]
      rcases hs i hi with h2 | ⟨h2, h3, h4⟩
      · exact Or.inl h2
      · exact Or.inr ⟨h2, h3, h4.now hG (fun k hk => by rw [p2, if_neg (by omega)])⟩
theorem e_restore {und : Int32} {slots : Nat → SV} {sf ms sv : Nat → Int32} (hN : 3000 < N) (hG : WF G) (hs : SL G T slots sf ms sv) (x1 : Int32) (hq : ∀ s, s < 2 → x1 = nI s → slots s = (day2, wind2, loftN2, lost2, lc2, ds2, jc2, jk2, jn2, jd2, bst2, br2, cg2, lt2, an2, ho2, du2, la2)) :
    (f_X8_restoreSnapshot N und sf day wind loftN lost lc ds day2 wind2 loftN2 lost2 lc2 ds2 jc2 jc jk2 jk jn2 jn jd2 jd bst2 bst br2 br cg2 cg lt2 lt an2 an ho2 ho du2 du la2 la x1 = some (0, und, day, wind, loftN, lost, lc, ds, jc, jk, jn, jd, bst, br, cg, lt, an, ho, du, la) ∧ f_X9_restoreSnapshot N (nI mu) sv ms mNow x1 = some (0, 0, nI mu, mNow)) ∨
    (∃ a1 a2 a3 a4 a5 a6 a7 a8 a9 a10 a11 now', f_X8_restoreSnapshot N und sf day wind loftN lost lc ds day2 wind2 loftN2 lost2 lc2 ds2 jc2 jc jk2 jk jn2 jn jd2 jd bst2 bst br2 br cg2 cg lt2 lt an2 an ho2 ho du2 du la2 la x1 = some (1, 0, day2, wind2, loftN2, lost2, lc2, ds2, jc2, a1, a2, a3, a4, a5, a6, a7, a8, a9, a10, a11) ∧ f_X9_restoreSnapshot N (nI mu) sv ms mNow x1 = some (1, 0, 0, now') ∧ RSx G T day2 wind2 loftN2 lost2 lc2 ds2 jc2 a1 a2 a3 a4 a5 a6 a7 a8 a9 a10 a11 now') := by
  unfold f_X8_restoreSnapshot f_X9_restoreSnapshot
  rw [z_isSl, z_ob1, z_in2, z_ob1]
  simp only [z_01]
  by_cases h1 : x1 < 0 ∨ nI 2 ≤ x1
  · left
    rw [if_pos h1, if_pos h1]; exact ⟨rfl, rfl⟩
  · have hsx := z_j (by omega) h1
    obtain ⟨s, hs1, rfl⟩ := hsx
    rw [if_neg h1, if_neg h1, z_gIx (by omega) (by omega), z_gIx (by omega) (by omega), z_gIx (by omega) (by omega), z_cl (by omega)]
    rcases hs s hs1 with ⟨h2, h3⟩ | ⟨h2, h3, h4⟩
    · left
      rw [h2, h3, if_pos rfl, if_pos rfl]; exact ⟨rfl, rfl⟩
    · right
      rw [hq s hs1 rfl] at h4
      obtain ⟨now', p1, p2⟩ := m_cp (N := N) (a := 213 * s) (b := 0) (m := 213) (sz := 426) (sy := 213) (by omega) (by omega) (by omega) (by omega) hN (by omega) ms mNow
      obtain ⟨a1, a2, a3, a4, a5, a6, a7, a8, a9, a10, a11, r1, r2⟩ := e_copyFrom (N := N) (mNow' := now') (jk := jk2) (jk2 := jk) (jn := jn2) (jn2 := jn) (jd := jd2) (jd2 := jd) (bst := bst2) (bst2 := bst) (br := br2) (br2 := br) (cg := cg2) (cg2 := cg) (lt := lt2) (lt2 := lt) (an := an2) (an2 := an) (ho := ho2) (ho2 := ho) (du := du2) (du2 := du) (la := la2) (la2 := la) hG h4 (fun k hk => by rw [p2, if_pos (by omega)]; exact congrArg ms (by omega))
      rw [show nI 0 = 0 from rfl, show nI 213 = 213 from rfl] at p1
      rw [h2, h3, if_neg (show ¬ (1 : Int32) = 0 by decide), if_neg (show ¬ (1 : Int32) = 0 by decide), r1, z_ob18, show (213 : Int32) * nI s = nI (213 * s) from by rw [show (213 : Int32) = nI 213 from rfl, z_mul], p1, z_ob1]
      exact ⟨a1, a2, a3, a4, a5, a6, a7, a8, a9, a10, a11, now', rfl, rfl, r2⟩
