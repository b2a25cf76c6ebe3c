variable {G : Nat → Nat → Nat} {regions balloons letters loft start seed count turnCount : Int32} {risk distance comeback capacity pigeons weight priority turnFrom turnTo follow land aimCount aim : Nat → Int32} {mLoft mStart mSeed : Int32} {mRegions mRisk mDistance mBack mWinds mNamed mNR mNW mTurns mTF mTT mTW mBalloons mRoom mPigeons mLetters mWeight mPriority : Nat → Int32}
variable {wind : Int32} {mNow : Nat → Int32} {now then_ chance chanceNext : Nat → Int64} {wd : Nat}
theorem y_toInt {n : Nat} (h : n < 2 ^ 63) : (lN n).toInt = (n : Int) := lg_ofNat_toInt h
theorem y_le {a b : Nat} (ha : a < 2 ^ 63) (hb : b < 2 ^ 63) : (lN a ≤ lN b) = (a ≤ b) := by
  apply propext; rw [Int64.le_iff_toInt_le, y_toInt ha, y_toInt hb]; omega
theorem y_lt {a b : Nat} (ha : a < 2 ^ 63) (hb : b < 2 ^ 63) : (lN a < lN b) = (a < b) := by
  apply propext; rw [Int64.lt_iff_toInt_lt, y_toInt ha, y_toInt hb]; omega
theorem y_eq {a b : Nat} (ha : a < 2 ^ 63) (hb : b < 2 ^ 63) : (lN a = lN b) = (a = b) := by
  apply propext; rw [← Int64.toInt_inj, y_toInt ha, y_toInt hb]; omega
theorem y_div {a d : Nat} (ha : a < 2 ^ 63) (h0 : 0 < d) (hd : d < 2 ^ 63) : lN a / lN d = lN (a / d) := by
  apply Int64.toInt_inj.mp
  rw [lg_ldiv_nonneg (by rw [y_toInt ha]; omega) (by rw [y_toInt hd]; omega), y_toInt ha, y_toInt hd, y_toInt (Nat.lt_of_le_of_lt (Nat.div_le_self a d) ha)]
  first | rfl | exact (Int.natCast_ediv _ _).symm
theorem s_perm {N : Nat} : ∀ (n k x : Nat), k < n → k < 100 → x < 2 ^ 63 → f_X8_answerPermille_65 N n (nI k) (lN x) = some (nI 0, lN (x / 10 ^ k)) := by
  intro n
  induction n with
  | zero => intro k x h; omega
  | succ n ih =>
    intro k x h1 h2 h3
    rw [f_X8_answerPermille_65.eq_2]
    by_cases h : k = 0
    · subst h
      simp (disch := omega) only [z_lit, z_le, if_pos, Nat.pow_zero, Nat.div_one]
    · obtain ⟨j, rfl⟩ : ∃ j, k = j + 1 := ⟨k - 1, by omega⟩
      have e1 : nI (j + 1) + (-1) = nI j := pk_m1 j
      have e2 : lN x / 10 = lN (x / 10) := y_div (d := 10) h3 (by omega) (by omega)
      have e3 : (nI (j + 1) ≤ 0) = (j + 1 ≤ 0) := z_le (b := 0) (by omega) (by omega)
      simp only [e1, e2, e3]
      rw [if_neg (by omega), ih j (x / 10) (by omega) (by omega) (by omega), Nat.div_div_eq_div_mul, Nat.pow_succ, Nat.mul_comm 10]
theorem aC_lt (hG : WF G) {d p : Nat} (hd : d ≤ 8) (hp : p ≤ 4) : aC G wd d p ≤ 10 ^ (d + 2 + p) := by
  have := aC_le hG wd d p
  rw [show 10 ^ d * 10 * 10 * 10 ^ p = 10 ^ (d + 2 + p) by rw [Nat.pow_add, Nat.pow_add, Nat.mul_assoc (10 ^ d) 10 10]] at this
  exact this
theorem y_p14 {n : Nat} (h : n ≤ 14) : 10 ^ n ≤ 100000000000000 := by
  have := Nat.pow_le_pow_right (n := 10) (by omega) h
  exact this
theorem e_answerPermille {N : Nat} (hN : 100 < N) (hN2 : N < 2 ^ 31) (hG : WF G) (hc : RGc G regions balloons letters loft start seed count turnCount risk distance comeback capacity pigeons weight priority turnFrom turnTo follow land aimCount aim) (hm : RGm G mLoft mStart mSeed mRegions mRisk mDistance mBack mWinds mNamed mNR mNW mTurns mTF mTT mTW mBalloons mRoom mPigeons mLetters mWeight mPriority) (hw : 0 < G 0 1 → wind = nI wd ∧ mNow 1 = nI wd ∧ wd < G 0 1) (x1 x2 : Int32) : ∃ r a b a' b', f_X8_answerPermille N regions count wind now then_ follow comeback land risk x1 x2 = some (r, a, b) ∧ f_X9_answerPermille N mWinds mNow chance mTurns mTF mTW chanceNext mTT mRegions mNamed mNW mNR mRisk mBack x1 x2 = some (r, 0, a', b') := by
  unfold f_X8_answerPermille f_X9_answerPermille
  have hcc : count = nI (G 0 1) := hc.1.2.2.2.2.2.2.1
  have g1 : G 0 1 ≤ 6 := hG.1.2.1
  rw [z_may hm hG, z_ob1, z_crew, z_ob1]
  rw [hcc, z_can (by omega), z_ob1]
  simp only [z_01]
  by_cases h1 : x1 < 0 ∨ nI 5 ≤ x1
  · exact ⟨_, _, _, _, _, if_pos h1, if_pos (Or.inl h1)⟩
  by_cases h2 : (x2 < 0 ∨ nI 9 ≤ x2) ∨ G 0 1 = 0
  · exact ⟨_, _, _, _, _, (if_neg h1).trans (if_pos h2), if_pos (Or.inr h2)⟩
  obtain ⟨p, hp1, rfl⟩ := z_j (by omega) h1
  obtain ⟨d, hd1, rfl⟩ := z_j (by omega) (fun q => h2 (Or.inl q))
  obtain ⟨rfl, w2, w3⟩ := hw (by omega)
  obtain ⟨a, b, h3, h4⟩ := e_look (sh := 6) (d := d) hN hG hc (by omega) w3 now then_
  obtain ⟨a', b', h5⟩ := e_chanceOf (x1 := nI p) (p := p) (c := fun r => 10 ^ p - (10 - G 3 r) ^ p) (d := d) hN hN2 hG hm (by omega) w3 w2 (Or.inr ⟨rfl, by omega, fun _ => rfl⟩) chance chanceNext
  rw [z_sh2] at h3
  have hb := aC_lt (wd := wd) hG (d := d) (p := p) (by omega) (by omega)
  have hb2 := y_p14 (n := d + 2 + p) (by omega)
  have hb3 : 0 < 10 ^ (d + 2 + p) := Nat.pow_pos (by omega)
  have e1 : nI d + 2 + nI p = nI (d + 2 + p) := by rw [show (2 : Int32) = nI 2 from rfl, z_add, z_add]
  refine ⟨nI (aC G wd d p * 1000 / 10 ^ (d + 2 + p)), a, b, a', b', (if_neg h1).trans ((if_neg h2).trans ?_), (if_neg (by intro q; rcases q with q | q; exact h1 q; exact h2 q)).trans ?_⟩
  · rw [← hcc, h3, z_ob2, e_cans hN hN2 (by omega) hG hc h4, z_ob1, e1, show (1000 : Int64) = lN 1000 from rfl, lN_mul]
    have e2 := s_perm (N := N) N (d + 2 + p) (aC G wd d p * 1000) (by omega) (by omega) (by omega)
    unfold aC at e2
    rw [e2, z_ob2, lN_i]; rfl
  · rw [h5, z_ob3, e1, s_X9_power, show (10 : Int32) = nI 10 from rfl, s_power (by omega) (by omega) hN2, z_ob1]
    unfold gNz
    rw [if_neg (by rw [show (0 : Int64) = lN 0 from rfl, y_eq (by omega) (by omega)]; omega), show (1000 : Int64) = lN 1000 from rfl, lN_mul]
    have e2 : lN (aC G wd d p * 1000) / lN (10 ^ (d + 2 + p)) = lN (aC G wd d p * 1000 / 10 ^ (d + 2 + p)) := y_div (by omega) (by omega) (by omega)
    unfold aC chA at e2
    rw [e2, lN_i]; rfl
/-- the first greatest of v 0 .. v (i - 1): its value and one, its place -/
def bV (v : Nat → Nat) : Nat → Nat × Nat
  | 0 => (0, 0)
  | i + 1 => if (bV v i).1 < v i + 1 then (v i + 1, i) else bV v i
theorem bV_mul {v : Nat → Nat} {c : Nat} (hc : 0 < c) : ∀ i : Nat, (bV (fun k => v k * c) i).2 = (bV v i).2 ∧ (((bV v i).1 = 0 ∧ (bV (fun k => v k * c) i).1 = 0) ∨ ∃ a, (bV v i).1 = a + 1 ∧ (bV (fun k => v k * c) i).1 = a * c + 1)
  | 0 => ⟨rfl, Or.inl ⟨rfl, rfl⟩⟩
  | i + 1 => by
    obtain ⟨h1, h2⟩ := bV_mul (v := v) hc i
    unfold bV
    rcases h2 with ⟨h2, h3⟩ | ⟨a, h2, h3⟩
    · rw [if_pos (by omega), if_pos (by omega)]
      exact ⟨rfl, Or.inr ⟨v i, rfl, rfl⟩⟩
    · by_cases h : a < v i
      · have : a * c < v i * c := Nat.mul_lt_mul_of_pos_right h hc
        rw [if_pos (by omega), if_pos (by omega)]
        exact ⟨rfl, Or.inr ⟨v i, rfl, rfl⟩⟩
      · have : v i * c ≤ a * c := Nat.mul_le_mul_right c (by omega)
        rw [if_neg (by omega), if_neg (by omega)]
        exact ⟨h1, Or.inr ⟨a, h2, h3⟩⟩
theorem bV_le {v : Nat → Nat} {M : Nat} (h : ∀ k, v k ≤ M) : ∀ i : Nat, (bV v i).1 ≤ M + 1 ∧ (bV v i).2 ≤ i
  | 0 => ⟨by unfold bV; omega, by unfold bV; omega⟩
  | i + 1 => by
    obtain ⟨h1, h2⟩ := bV_le (v := v) h i
    have := h i
    unfold bV
    split
    · exact ⟨by omega, by omega⟩
    · exact ⟨h1, by omega⟩
theorem y_cmp {a g : Nat} (ha : a < 2 ^ 62) (hg : g < 2 ^ 62) : (lg_cmp (lN a) (lN g - 1) ≤ 0) = (a + 1 ≤ g) := by
  apply propext
  rw [lg_cmp_le]
  have e : (lN g - 1).toInt = (g : Int) - 1 := by
    rw [Int64.toInt_sub, y_toInt (by omega), show (1 : Int64).toInt = 1 from by decide]
    exact Int.bmod_eq_of_le (by omega) (by omega)
  rw [Int64.le_iff_toInt_le, y_toInt (by omega), e]
  omega
/-- the even chances, of the class and of the model -/
def eV (G : Nat → Nat → Nat) (wd p : Nat) (d : Nat) : Nat := aC G wd d p * 10 ^ (8 - d)
theorem eV_le (hG : WF G) {d p : Nat} (hd : d ≤ 8) (hp : p ≤ 4) : eV G wd p d ≤ 10 ^ 14 := by
  have := Nat.mul_le_mul_right (10 ^ (8 - d)) (aC_lt (wd := wd) hG hd hp)
  rw [← Nat.pow_add] at this
  exact Nat.le_trans this (Nat.pow_le_pow_right (by omega) (by omega))
/-- beyond day 8: 0 -/
def eW (G : Nat → Nat → Nat) (wd p : Nat) (d : Nat) : Nat := if d ≤ 8 then eV G wd p d else 0
theorem eW_le (hG : WF G) {p : Nat} (hp : p ≤ 4) (d : Nat) : eW G wd p d ≤ 10 ^ 14 := by
  unfold eW
  split
  · exact eV_le hG ‹_› hp
  · exact Nat.zero_le _
theorem chD_6 {nW : Nat} {F : Nat → Nat → Nat} {w d k : Nat} (hk : k < 6) : chD nW F w 6 (d + 1) k = chS nW F (chD nW F w 6 d) k := if_neg (by omega)
theorem s_best_40 {N p : Nat} (hN : 100 < N) (hN2 : N < 2 ^ 31) (hp : p ≤ 4) (hG : WF G) (hc : RGc G regions balloons letters loft start seed count turnCount risk distance comeback capacity pigeons weight priority turnFrom turnTo follow land aimCount aim) : ∀ (n i : Nat) (a b : Nat → Int64), i ≤ 9 → 9 - i < n → (∀ k, k < 6 → a k = lN (chD (G 0 1) (tF (G 0 2) (G 7) (G 8) (G 9)) wd 6 i k)) → ∃ q a' b', f_X8_bestDay_40 N regions count comeback land risk follow (nI p) n (nI i) (lN (bV (eW G wd p) i).1 - 1) (nI (bV (eW G wd p) i).2) a b = some (nI 9, q, nI (bV (eW G wd p) 9).2, a', b') := by
  intro n
  induction n with
  | zero => intro i a b h1 h2; omega
  | succ n ih =>
    intro i a b h1 h2 ha
    rw [f_X8_bestDay_40.eq_2]
    by_cases h : i < 9
    · have e1 := e_cans hN hN2 hp hG hc ha
      have hcc : count = nI (G 0 1) := hc.1.2.2.2.2.2.2.1
      obtain ⟨t1, n1, e2, e3⟩ : ∃ t' n', f_X0_passDay N b count a follow = some (t', n') ∧ ∀ k, k < 6 → n' k = lN (chS (G 0 1) (tF (G 0 2) (G 7) (G 8) (G 9)) (chD (G 0 1) (tF (G 0 2) (G 7) (G 8) (G 9)) wd 6 i) k) := by
        obtain ⟨⟨g0, g1, g2, g3, g4, g5, g6, g7⟩, gr, ⟨gna, gn1, gn2, gn3⟩, ⟨gt1, gt2, gt3⟩, gb, gl⟩ := hG
        obtain ⟨⟨rfl, rfl, rfl, rfl, rfl, rfl, rfl, rfl⟩, cr, cb, cl, ct, cf, cla, cac, cai⟩ := hc
        exact s_passDay hN (by omega) cf (fun w v _ _ => by have := tF_le (tt := G 8) (v := v) (gt3 w); omega) ha
      obtain ⟨q, a', b', e4⟩ := ih (i + 1) n1 t1 (by omega) (by omega) (fun k hk => by rw [e3 k hk, chD_6 hk])
      refine ⟨q, a', b', ?_⟩
      rw [← e4]
      have e5 : (8 : Int32) - nI i = nI (8 - i) := z_sub (a := 8) (by omega)
      have e6 := s_power (N := N) (b := 10) (e := 8 - i) (by omega) (by omega) hN2
      rw [show nI 10 = 10 from rfl] at e6
      have e7 : (8 < nI i) = (8 < i) := z_lt (a := 8) (by omega) (by omega)
      have e8 : chA (G 0 1) (G 0 0) (lT (G 4) (G 5) (G 6)) (G 1) (G 3) p (chD (G 0 1) (tF (G 0 2) (G 7) (G 8) (G 9)) wd 6 i) * 10 ^ (8 - i) = eW G wd p i := by
        unfold eW eV aC; rw [if_pos (by omega)]
      have b1 := eW_le (wd := wd) hG hp i
      have b2 := (bV_le (eW_le (wd := wd) hG hp) i).1
      rw [if_neg (by rw [e7]; omega), e1, z_ob1, e5, e6, z_ob1, lN_mul, e8, e2, z_ob2, z_ob2]
      simp (disch := omega) only [y_cmp]
      have e9 : bV (eW G wd p) (i + 1) = if (bV (eW G wd p) i).1 < eW G wd p i + 1 then (eW G wd p i + 1, i) else bV (eW G wd p) i := rfl
      by_cases hh : (bV (eW G wd p) i).1 < eW G wd p i + 1
      · rw [if_neg (by omega), e9, if_pos hh, ← nI_1 i]
        have e10 : lN (eW G wd p i + 1) - 1 = lN (eW G wd p i) := by rw [show (1 : Int64) = lN 1 from rfl, lN_sub (by omega)]; rfl
        rw [e10]
      · rw [if_pos (by omega), e9, if_neg hh, ← nI_1 i]
    · have : i = 9 := by omega
      subst this
      exact ⟨_, _, _, if_pos (by decide)⟩
theorem m_best_25 {N p : Nat} (hN : 100 < N) (hN2 : N < 2 ^ 31) (hp : p ≤ 4) (hG : WF G) (hm : RGm G mLoft mStart mSeed mRegions mRisk mDistance mBack mWinds mNamed mNR mNW mTurns mTF mTT mTW mBalloons mRoom mPigeons mLetters mWeight mPriority) (hw : wd < G 0 1) (hw2 : mNow 1 = nI wd) : ∀ (n i : Nat) (a b : Nat → Int64), i ≤ 9 → 9 - i < n → ∃ q a' b', f_X9_bestDay_25 N mWinds mNow mTurns mTF mTW mTT mRegions mNamed mNW mNR mRisk mBack (nI p) n (nI i) (lN (bV (fun k => eW G wd p k * 10 ^ (4 - p)) i).1 - 1) (nI (bV (fun k => eW G wd p k * 10 ^ (4 - p)) i).2) a b = some (nI 9, q, nI (bV (fun k => eW G wd p k * 10 ^ (4 - p)) 9).2, a', b') := by
  intro n
  induction n with
  | zero => intro i a b h1 h2; omega
  | succ n ih =>
    intro i a b h1 h2
    rw [f_X9_bestDay_25.eq_2]
    by_cases h : i < 9
    · obtain ⟨a1, b1, h5⟩ := e_chanceOf (x1 := nI p) (p := p) (c := fun r => 10 ^ p - (10 - G 3 r) ^ p) (d := i) hN hN2 hG hm (by omega) hw hw2 (Or.inr ⟨rfl, by omega, fun _ => rfl⟩) a b
      obtain ⟨q, a', b', e4⟩ := ih (i + 1) a1 b1 (by omega) (by omega)
      refine ⟨q, a', b', ?_⟩
      rw [← e4]
      have e5 : (12 : Int32) - nI i - nI p = nI (12 - i - p) := by rw [show (12 : Int32) = nI 12 from rfl, z_sub (by omega), z_sub (by omega)]
      have e6 := s_power (N := N) (b := 10) (e := 12 - i - p) (by omega) (by omega) hN2
      rw [show nI 10 = 10 from rfl] at e6
      have e7 : (8 < nI i) = (8 < i) := z_lt (a := 8) (by omega) (by omega)
      have e8 : chA (G 0 1) (G 0 0) (lT (G 4) (G 5) (G 6)) (G 1) (G 3) p (chD (G 0 1) (tF (G 0 2) (G 7) (G 8) (G 9)) wd 6 i) * 10 ^ (12 - i - p) = eW G wd p i * 10 ^ (4 - p) := by
        unfold eW eV aC; rw [if_pos (by omega), Nat.mul_assoc, ← Nat.pow_add, show 12 - i - p = 8 - i + (4 - p) by omega]
      unfold chA at e8
      have b0 : ∀ k, eW G wd p k * 10 ^ (4 - p) ≤ 10 ^ 14 * 10 ^ 4 := fun k => Nat.mul_le_mul (eW_le (wd := wd) hG hp k) (Nat.pow_le_pow_right (by omega) (by omega))
      have b1 := b0 i
      have b2 := (bV_le b0 i).1
      unfold f_X9_evenChance
      rw [if_neg (by rw [e7]; omega), h5, z_ob3, e5, s_X9_power, e6, z_ob1, z_ob3, lN_mul, e8]
      simp (disch := omega) only [y_cmp]
      have e9 : bV (fun k => eW G wd p k * 10 ^ (4 - p)) (i + 1) = if (bV (fun k => eW G wd p k * 10 ^ (4 - p)) i).1 < eW G wd p i * 10 ^ (4 - p) + 1 then (eW G wd p i * 10 ^ (4 - p) + 1, i) else bV (fun k => eW G wd p k * 10 ^ (4 - p)) i := rfl
      by_cases hh : (bV (fun k => eW G wd p k * 10 ^ (4 - p)) i).1 < eW G wd p i * 10 ^ (4 - p) + 1
      · rw [if_neg (by omega), e9, if_pos hh, ← nI_1 i]
        have e10 : lN (eW G wd p i * 10 ^ (4 - p) + 1) - 1 = lN (eW G wd p i * 10 ^ (4 - p)) := by rw [show (1 : Int64) = lN 1 from rfl, lN_sub (by omega)]; rfl
        rw [e10]
      · rw [if_pos (by omega), e9, if_neg hh, ← nI_1 i]
    · have : i = 9 := by omega
      subst this
      exact ⟨_, _, _, if_pos (by decide)⟩
theorem e_bestDay {N : Nat} (hN : 100 < N) (hN2 : N < 2 ^ 31) (hG : WF G) (hc : RGc G regions balloons letters loft start seed count turnCount risk distance comeback capacity pigeons weight priority turnFrom turnTo follow land aimCount aim) (hm : RGm G mLoft mStart mSeed mRegions mRisk mDistance mBack mWinds mNamed mNR mNW mTurns mTF mTT mTW mBalloons mRoom mPigeons mLetters mWeight mPriority) (hw : 0 < G 0 1 → wind = nI wd ∧ mNow 1 = nI wd ∧ wd < G 0 1) (x1 : Int32) : ∃ r a b a' b', f_X8_bestDay N regions count wind now comeback land risk then_ follow x1 = some (r, a, b) ∧ f_X9_bestDay N mWinds mNow chance mTurns mTF mTW chanceNext mTT mRegions mNamed mNW mNR mRisk mBack x1 = some (r, 0, a', b') := by
  unfold f_X8_bestDay f_X9_bestDay
  have hcc : count = nI (G 0 1) := hc.1.2.2.2.2.2.2.1
  have g1 : G 0 1 ≤ 6 := hG.1.2.1
  rw [z_may hm hG, z_ob1, z_crew, z_ob1]
  have e0 : f_X8_canForecast N count 0 = some (if G 0 1 = 0 then 0 else 1) := by
    rw [hcc, z_can (by omega)]
    have : ¬ ((0 : Int32) < 0 ∨ nI 9 ≤ 0) := by decide
    simp only [this, false_or]
  have e00 : ((0 : Int32) < 0 ∨ nI 9 ≤ 0) = False := eq_false (by decide)
  rw [e0, z_ob1]
  simp only [z_01, e00, false_or]
  by_cases h1 : x1 < 0 ∨ nI 5 ≤ x1
  · exact ⟨_, _, _, _, _, if_pos h1, if_pos (Or.inl h1)⟩
  by_cases h2 : G 0 1 = 0
  · exact ⟨_, _, _, _, _, (if_neg h1).trans (if_pos h2), if_pos (Or.inr h2)⟩
  obtain ⟨p, hp1, rfl⟩ := z_j (by omega) h1
  obtain ⟨rfl, w2, w3⟩ := hw (by omega)
  obtain ⟨n1, h3, h4⟩ := s_begin (N := N) (w := wd) (by omega) hN now
  obtain ⟨q, a, b, h5⟩ := s_best_40 (N := N) (p := p) (wd := wd) hN hN2 (by omega) hG hc N 0 n1 then_ (by omega) (by omega) (fun k hk => by
    rw [h4 k hk]; unfold chD; rw [if_neg (show ¬ k = 6 by omega)])
  obtain ⟨q', a', b', h6⟩ := m_best_25 (N := N) (p := p) (wd := wd) hN hN2 (by omega) hG hm w3 w2 N 0 chance chanceNext (by omega) (by omega)
  rw [(bV_mul (Nat.pow_pos (by omega)) 9).1] at h6
  refine ⟨nI (bV (eW G wd p) 9).2, a, b, a', b', (if_neg h1).trans ((if_neg h2).trans ?_), (if_neg (by intro q; rcases q with q | q; exact h1 q; exact h2 q)).trans ?_⟩
  · rw [h3, z_ob1]
    exact (ob5_of h5)
  · exact (ob5_of h6)
