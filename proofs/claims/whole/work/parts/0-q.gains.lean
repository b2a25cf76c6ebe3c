variable {G : Nat → Nat → Nat} {regions balloons letters loft start seed count turnCount : Int32} {risk distance comeback capacity pigeons weight priority turnFrom turnTo follow land aimCount aim : Nat → Int32} {mLoft mStart mSeed : Int32} {mRegions mRisk mDistance mBack mWinds mNamed mNR mNW mTurns mTF mTT mTW mBalloons mRoom mPigeons mLetters mWeight mPriority : Nat → Int32}
variable {wd : Nat} {mNow : Nat → Int32} {now then_ : Nat → Int64}
theorem s_weigh_18 {N d : Nat} (hN : 3000 < N) (hN2 : N < 2 ^ 31) (hG : WF G) (hc : RGc G regions balloons letters loft start seed count turnCount risk distance comeback capacity pigeons weight priority turnFrom turnTo follow land aimCount aim) (hd : d < 9) (hh : ∀ k, k < 6 → now k = lN (chD (G 0 1) (tF (G 0 2) (G 7) (G 8) (G 9)) wd 6 d k)) : ∀ (n i : Nat) (a a0 : Nat → Int64), i ≤ G 0 3 → G 0 3 - i < n → (∀ b, b < i → a (b * 9 + d) = lN (gNn G wd b d)) → (∀ b d', b < G 0 3 → d' < 9 → d' ≠ d → a (b * 9 + d') = a0 (b * 9 + d')) → ∃ a', f_X3_weighGains_18 N regions balloons pigeons capacity comeback count land risk (nI d) now n (nI i) a = some (nI (G 0 3), a') ∧ (∀ b, b < G 0 3 → a' (b * 9 + d) = lN (gNn G wd b d)) ∧ ∀ b d', b < G 0 3 → d' < 9 → d' ≠ d → a' (b * 9 + d') = a0 (b * 9 + d') := by
  have ec := fun p hp => e_cans (N := N) (p := p) (by omega) hN2 hp hG hc hh
  obtain ⟨⟨g0, g1, g2, g3, g4, g5, g6, g7⟩, gr, ⟨gna, gn1, gn2, gn3⟩, ⟨gt1, gt2, gt3⟩, gb, gl⟩ := hG
  obtain ⟨⟨rfl, rfl, rfl, rfl, rfl, rfl, rfl, rfl⟩, cr, cb, cl, ct, cf, cla, cac, cai⟩ := hc
  intro n
  induction n with
  | zero => intro i a a0 h1 h2; omega
  | succ n ih =>
    intro i a a0 h1 h2 ha hq
    rw [f_X3_weighGains_18.eq_2]
    by_cases h : i < G 0 3
    · obtain ⟨p1, p2⟩ := cb i h
      obtain ⟨q1, q2, q3⟩ := gb i h
      have e1 : nI i * 9 + nI d = nI (i * 9 + d) := by rw [show (9 : Int32) = nI 9 from rfl, z_mul, z_add]
      have e2 : (8 : Int32) - nI d + 4 - nI (G 11 i) = nI (12 - d - G 11 i) := by
        rw [show (8 : Int32) = nI 8 from rfl, show (4 : Int32) = nI 4 from rfl, z_sub (by omega), z_add, z_sub (by omega), show 8 - d + 4 - G 11 i = 12 - d - G 11 i by omega]
      rw [if_neg (by rw [z_le (by omega) (by omega)]; omega), z_gIx (i := i) (by omega) (by omega), z_cl (n := i) (by omega), p1, p2, e2, show (10 : Int32) = nI 10 from rfl, s_power (by omega) (by omega) hN2, z_ob1, z_gIx (i := i) (by omega) (by omega), ec _ q3, z_ob1, e1, z_gIx (by omega) (by omega), z_cl (n := i * 9 + d) (by omega), z_l (by omega), lN_mul, lN_mul, nI_1]
      have e3 : G 10 i * chA (G 0 1) (G 0 0) (lT (G 4) (G 5) (G 6)) (G 1) (G 3) (G 11 i) (chD (G 0 1) (tF (G 0 2) (G 7) (G 8) (G 9)) wd 6 d) * 10 ^ (12 - d - G 11 i) = gNn G wd i d := by
        unfold gNn aC; rw [Nat.mul_assoc]
      rw [e3]
      refine ih (i + 1) _ a0 (by omega) (by omega) (fun b hb => ?_) (fun b d' hb hd' hne => ?_)
      · by_cases e : b = i
        · subst e; rw [pk_uLs]
        · rw [pk_uLn (by omega)]; exact ha b (by omega)
      · rw [pk_uLn (by omega)]; exact hq b d' hb hd' hne
    · have : i = G 0 3 := by omega
      subst this
      exact ⟨a, by rw [if_pos (by rw [z_le (by omega) (by omega)]; omega)], ha, hq⟩
theorem s_weigh_8 {N : Nat} (hN : 3000 < N) (hN2 : N < 2 ^ 31) (hG : WF G) (hc : RGc G regions balloons letters loft start seed count turnCount risk distance comeback capacity pigeons weight priority turnFrom turnTo follow land aimCount aim) : ∀ (n i : Nat) (w g t : Nat → Int64), i ≤ 9 → 9 - i < n → (∀ k, k < 6 → w k = lN (chD (G 0 1) (tF (G 0 2) (G 7) (G 8) (G 9)) wd 6 i k)) → (∀ b d, b < G 0 3 → d < i → g (b * 9 + d) = lN (gNn G wd b d)) → ∃ w' g' t', f_X3_weighGains_8 N regions balloons pigeons capacity comeback count land risk follow n (nI i) w g t = some (nI 9, w', g', t') ∧ ∀ b d, b < G 0 3 → d < 9 → g' (b * 9 + d) = lN (gNn G wd b d) := by
  intro n
  induction n with
  | zero => intro i w g t h1 h2; omega
  | succ n ih =>
    intro i w g t h1 h2 hw hg
    rw [f_X3_weighGains_8.eq_2]
    have e9 : (9 ≤ nI i) = (9 ≤ i) := z_le (a := 9) (by omega) (by omega)
    by_cases h : i < 9
    · obtain ⟨g1, p1, p2, p3⟩ := s_weigh_18 (N := N) (d := i) hN hN2 hG hc h hw N 0 g g (by omega) (by have := hG.1.2.2.2.1; omega) (fun b hb => absurd hb (Nat.not_lt_zero b)) (fun _ _ _ _ _ => rfl)
      rw [show nI 0 = 0 from rfl] at p1
      obtain ⟨t1, n1, e2, e3⟩ : ∃ t' n', f_X0_passDay N t count w follow = some (t', n') ∧ ∀ k, k < 6 → n' k = lN (chS (G 0 1) (tF (G 0 2) (G 7) (G 8) (G 9)) (chD (G 0 1) (tF (G 0 2) (G 7) (G 8) (G 9)) wd 6 i) k) := by
        obtain ⟨⟨g0, g1, g2, g3, g4, g5, g6, g7⟩, gr, ⟨gna, gn1, gn2, gn3⟩, ⟨gt1, gt2, gt3⟩, gb, gl⟩ := hG
        obtain ⟨⟨rfl, rfl, rfl, rfl, rfl, rfl, rfl, rfl⟩, cr, cb, cl, ct, cf, cla, cac, cai⟩ := hc
        exact s_passDay (by omega) (by omega) cf (fun w v _ _ => by have := tF_le (tt := G 8) (v := v) (gt3 w); omega) hw
      rw [if_neg (by rw [e9]; omega), p1, z_ob2, e2, z_ob2, nI_1]
      refine ih (i + 1) n1 g1 t1 (by omega) (by omega) (fun k hk => by rw [e3 k hk, chD_6 hk]) (fun b d hb hd => ?_)
      by_cases e : d = i
      · subst e; exact p2 b hb
      · rw [p3 b d hb (by omega) e]; exact hg b d hb (by omega)
    · have : i = 9 := by omega
      subst this
      exact ⟨w, g, t, if_pos (by decide), hg⟩
theorem s_weigh {N : Nat} {gain : Nat → Int64} (hN : 3000 < N) (hN2 : N < 2 ^ 31) (hG : WF G) (hc : RGc G regions balloons letters loft start seed count turnCount risk distance comeback capacity pigeons weight priority turnFrom turnTo follow land aimCount aim) (hw : wd < G 0 1) : ∃ w' g' t', f_X3_weighGains N now regions balloons pigeons capacity comeback count land risk gain then_ follow (nI wd) = some (w', g', t') ∧ ∀ b d, b < G 0 3 → d < 9 → g' (b * 9 + d) = lN (gNn G wd b d) := by
  obtain ⟨n1, h3, h4⟩ := s_begin (N := N) (w := wd) (by have := hG.1.2.1; omega) (by omega) now
  obtain ⟨w', g', t', p1, p2⟩ := s_weigh_8 (N := N) (wd := wd) hN hN2 hG hc N 0 n1 gain then_ (by omega) (by omega) (fun k hk => by
    rw [h4 k hk]; unfold chD; rw [if_neg (show ¬ k = 6 by omega)]) (fun b d _ hd => absurd hd (Nat.not_lt_zero d))
  unfold f_X3_weighGains
  rw [h3, z_ob1]
  exact ⟨w', g', t', ob4_of p1, p2⟩
theorem m_even {N p d : Nat} (hN : 3000 < N) (hN2 : N < 2 ^ 31) (hp : p ≤ 4) (hd : d < 9) (hG : WF G) (hm : RGm G mLoft mStart mSeed mRegions mRisk mDistance mBack mWinds mNamed mNR mNW mTurns mTF mTT mTW mBalloons mRoom mPigeons mLetters mWeight mPriority) (hw : wd < G 0 1) (hw2 : mNow 1 = nI wd) (a b : Nat → Int64) : ∃ a' b', f_X9_evenChance N mNow a mTurns mTF mTW b mTT mWinds mRegions mNamed mNW mNR mRisk mBack (nI p) (nI d) = some (lN (aC G wd d p * 10 ^ (12 - d - p)), a', b') := by
  obtain ⟨a1, b1, h5⟩ := e_chanceOf (N := N) (x1 := nI p) (p := p) (c := fun r => 10 ^ p - (10 - G 3 r) ^ p) (d := d) (by omega) hN2 hG hm (by omega) hw hw2 (Or.inr ⟨rfl, by omega, fun _ => rfl⟩) a b
  have e5 : (12 : Int32) - nI d - nI p = nI (12 - d - p) := by rw [show (12 : Int32) = nI 12 from rfl, z_sub (by omega), z_sub (by omega)]
  unfold f_X9_evenChance
  rw [h5, z_ob3, e5, s_X9_power, show (10 : Int32) = nI 10 from rfl, s_power (by omega) (by omega) hN2, z_ob1, lN_mul]
  exact ⟨a1, b1, rfl⟩
theorem m_lay_14 {N b : Nat} (hN : 3000 < N) (hN2 : N < 2 ^ 31) (hG : WF G) (hm : RGm G mLoft mStart mSeed mRegions mRisk mDistance mBack mWinds mNamed mNR mNW mTurns mTF mTT mTW mBalloons mRoom mPigeons mLetters mWeight mPriority) (hw : wd < G 0 1) (hw2 : mNow 1 = nI wd) (hb : b < G 0 3) : ∀ (n i : Nat) (c e a a0 : Nat → Int64), i ≤ 9 → 9 - i < n → (∀ d, d < i → a (9 * b + d) = lN (gNn G wd b d)) → (∀ b' d, b' < G 0 3 → d < 9 → b' ≠ b → a (9 * b' + d) = a0 (9 * b' + d)) → ∃ c' e' a', f_X9_laysTotals_14 N mRoom mPigeons mNow mTurns mTF mTW mTT mWinds mRegions mNamed mNW mNR mRisk mBack (nI b) n (nI i) c e a = some (nI 9, c', e', a') ∧ (∀ d, d < 9 → a' (9 * b + d) = lN (gNn G wd b d)) ∧ ∀ b' d, b' < G 0 3 → d < 9 → b' ≠ b → a' (9 * b' + d) = a0 (9 * b' + d) := by
  have g3 : G 0 3 ≤ 10 := hG.1.2.2.2.1
  obtain ⟨q1, q2, q3⟩ := hG.2.2.2.2.1 b hb
  obtain ⟨p1, p2⟩ := hm.2.2.1 b hb
  have ev := fun d (hd : d < 9) => m_even (N := N) (p := G 11 b) (d := d) (wd := wd) hN hN2 q3 hd hG hm hw hw2
  intro n
  induction n with
  | zero => intro i c e a a0 h1 h2; omega
  | succ n ih =>
    intro i c e a a0 h1 h2 ha hq
    rw [f_X9_laysTotals_14.eq_2]
    have e9 : (9 ≤ nI i) = (9 ≤ i) := z_le (a := 9) (by omega) (by omega)
    by_cases h : i < 9
    · obtain ⟨c1, e1', h5⟩ := ev i h c e
      have e1 : (9 : Int32) * nI b + nI i = nI (9 * b + i) := by rw [show (9 : Int32) = nI 9 from rfl, z_mul, z_add]
      rw [if_neg (by rw [e9]; omega), z_gIx (i := b) (by omega) (by omega), z_gIx (i := b) (by omega) (by omega), z_cl (n := b) (by omega), p1, p2, h5, z_ob3, e1, z_gIx (by omega) (by omega), z_cl (n := 9 * b + i) (by omega), z_l (by omega), lN_mul, nI_1]
      refine ih (i + 1) c1 e1' _ a0 (by omega) (by omega) (fun d hd => ?_) (fun b' d hb' hd hne => ?_)
      · by_cases e : d = i
        · subst e; rw [pk_uLs]; rfl
        · rw [pk_uLn (by omega)]; exact ha d (by omega)
      · rw [pk_uLn (by omega)]; exact hq b' d hb' hd hne
    · have : i = 9 := by omega
      subst this
      exact ⟨c, e, a, if_pos (by decide), ha, hq⟩
theorem m_lay_2 {N : Nat} (hN : 3000 < N) (hN2 : N < 2 ^ 31) (hG : WF G) (hm : RGm G mLoft mStart mSeed mRegions mRisk mDistance mBack mWinds mNamed mNR mNW mTurns mTF mTT mTW mBalloons mRoom mPigeons mLetters mWeight mPriority) (hw : wd < G 0 1) (hw2 : mNow 1 = nI wd) : ∀ (n i : Nat) (c e a : Nat → Int64), i ≤ G 0 3 → G 0 3 - i < n → (∀ b d, b < i → d < 9 → a (9 * b + d) = lN (gNn G wd b d)) → ∃ c' e' a', f_X9_laysTotals_2 N mBalloons mRoom mPigeons mNow mTurns mTF mTW mTT mWinds mRegions mNamed mNW mNR mRisk mBack n (nI i) c e a = some (nI (G 0 3), c', e', a') ∧ (∀ b d, b < G 0 3 → d < 9 → a' (9 * b + d) = lN (gNn G wd b d)) := by
  have g3 : G 0 3 ≤ 10 := hG.1.2.2.2.1
  have m3 : mBalloons 0 = nI (G 0 3) := hm.1.2.2.2.1
  intro n
  induction n with
  | zero => intro i c e a h1 h2; omega
  | succ n ih =>
    intro i c e a h1 h2 ha
    rw [f_X9_laysTotals_2.eq_2, z_gI0 (by omega) (by omega), z_c0, m3]
    by_cases h : i < G 0 3
    · obtain ⟨c1, e1, a1, p1, p2, p3⟩ := m_lay_14 (N := N) (b := i) hN hN2 hG hm hw hw2 h N 0 c e a a (by omega) (by omega) (fun d hd => absurd hd (Nat.not_lt_zero d)) (fun _ _ _ _ _ => rfl)
      rw [show nI 0 = 0 from rfl] at p1
      rw [if_neg (by rw [z_le (by omega) (by omega)]; omega), p1, z_ob4, nI_1]
      refine ih (i + 1) c1 e1 a1 (by omega) (by omega) (fun b d hb hd => ?_)
      by_cases e : b = i
      · subst e; exact p2 d hd
      · rw [p3 b d (by omega) hd e]; exact ha b d (by omega) hd
    · have : i = G 0 3 := by omega
      subst this
      exact ⟨c, e, a, by rw [if_pos (by rw [z_le (by omega) (by omega)]; omega)], ha⟩
theorem m_lay {N rs : Nat} {chance chanceNext worth total : Nat → Int64} (hN : 3000 < N) (hN2 : N < 2 ^ 31) (hG : WF G) (hm : RGm G mLoft mStart mSeed mRegions mRisk mDistance mBack mWinds mNamed mNR mNW mTurns mTF mTT mTW mBalloons mRoom mPigeons mLetters mWeight mPriority) (hw : wd < G 0 1) (hw2 : mNow 1 = nI wd) (h5 : ∀ b, b < G 0 3 → ((mNow (5 + b) = 0) ↔ rs.testBit b = true)) : ∃ c' e' g' a', f_X9_laysTotals N mBalloons mRoom mPigeons mNow chance mTurns mTF mTW chanceNext mTT mWinds mRegions mNamed mNW mNR mRisk mBack worth total = some (c', e', g', a') ∧ (∀ b d, b < G 0 3 → d < 9 → g' (9 * b + d) = lN (gNn G wd b d)) ∧ (∀ b s, b ≤ G 0 3 → s < 512 → a' (512 * b + s) = lN (pV G wd rs (G 0 3 - b) (511 ^^^ s))) := by
  have g3 : G 0 3 ≤ 10 := hG.1.2.2.2.1
  have m3 : mBalloons 0 = nI (G 0 3) := hm.1.2.2.2.1
  obtain ⟨c', e', g', p1, p2⟩ := m_lay_2 (N := N) hN hN2 hG hm hw hw2 N 0 chance chanceNext worth (by omega) (by omega) (fun b _ hb => absurd hb (Nat.not_lt_zero b))
  obtain ⟨a1, q1, q2⟩ := m_lay_64 (N := N) g3 m3 N 0 total (by omega) (by omega) (fun t ht => absurd ht (Nat.not_lt_zero t))
  obtain ⟨y, a', r1, r2⟩ := m_lay_104 (N := N) (rs := rs) (wd := wd) (mNow := mNow) hN hG p2 h5 N (G 0 3) a1 (by omega) (by omega) (fun b t h1 h2 h3 => by
    have : b = G 0 3 := by omega
    subst this
    rw [q2 t h3, Nat.sub_self]; rfl)
  rw [show nI 0 = 0 from rfl] at p1 q1
  unfold f_X9_laysTotals
  rw [p1, z_ob4, q1, z_ob2, z_gI0 (by omega) (by omega), z_c0, m3, r1, z_ob2]
  exact ⟨c', e', g', a', rfl, p2, r2⟩
/-- the first best day (9: none) -/
def fD (f : Nat → Nat) (t v : Nat) : Nat → Nat → Nat
  | 0, i => i
  | k + 1, i => if t.testBit i = false ∧ f i = v then i else fD f t v k (i + 1)
theorem fD_le {f : Nat → Nat} {t v : Nat} : ∀ {k i : Nat}, fD f t v k i ≤ i + k
  | 0, i => Nat.le_refl _
  | k + 1, i => by unfold fD; split; omega; have := fD_le (f := f) (t := t) (v := v) (k := k) (i := i + 1); omega
theorem s_first_16 {N b t v K : Nat} {gain best : Nat → Int64} {g w : Nat → Nat} (hb : b < 10) (ht : t < 512) (hK : K < 2 ^ 62) (hv : v ≤ K) (hf : ∀ d, d < 9 → g d + w (t ||| 2 ^ d) ≤ K) (hg : ∀ d, d < 9 → gain (b * 9 + d) = lN (g d)) (hw : ∀ d, d < 9 → best ((b + 1) * 512 + (t ||| 2 ^ d)) = lN (w (t ||| 2 ^ d))) : ∀ (n k i : Nat), i + k = 9 → k < n → f_X3_firstBestDay_16 N best gain (nI b) (nI t) (lN v) n (nI i) = some (if fD (fun d => g d + w (t ||| 2 ^ d)) t v k i < 9 then nI (fD (fun d => g d + w (t ||| 2 ^ d)) t v k i) else -2) := by
  intro n
  induction n with
  | zero => intro k i h1 h2; omega
  | succ n ih =>
    intro k i h1 h2
    rw [f_X3_firstBestDay_16.eq_2]
    have e9 : (9 ≤ nI i) = (9 ≤ i) := z_le (a := 9) (by omega) (by omega)
    cases k with
    | zero =>
      have : i = 9 := by omega
      subst this
      rw [if_pos (by decide)]; rfl
    | succ k =>
      have hi : i < 9 := by omega
      have hfi := hf i hi
      rw [if_neg (by rw [e9]; omega), z_isIn (by omega) (by omega), z_ob1, s_fly hb ht hi (hg i hi) (hw i hi), z_ob1, nI_1]
      have ec : (lg_cmp (lN (g i + w (t ||| 2 ^ i))) (lN v) = 0) = (g i + w (t ||| 2 ^ i) = v) := by
        rw [propext (lg_cmp_eq _ _), y_eq (by omega) (by omega)]
      simp only [ec]
      have e : fD (fun d => g d + w (t ||| 2 ^ d)) t v (k + 1) i = if t.testBit i = false ∧ g i + w (t ||| 2 ^ i) = v then i else fD (fun d => g d + w (t ||| 2 ^ d)) t v k (i + 1) := rfl
      by_cases hbt : t.testBit i = true
      · rw [if_neg (show ¬ (t.testBit i = false ∧ g i + w (t ||| 2 ^ i) = v) from fun q => by rw [hbt] at q; exact absurd q.1 (by decide))] at e
        rw [e, if_pos hbt, if_neg (by decide)]
        exact ih k (i + 1) (by omega) (by omega)
      · have hbf : t.testBit i = false := by simpa using hbt
        rw [if_neg hbt, if_pos rfl]
        by_cases hq : g i + w (t ||| 2 ^ i) = v
        · rw [if_pos (show t.testBit i = false ∧ g i + w (t ||| 2 ^ i) = v from ⟨hbf, hq⟩)] at e
          rw [e, if_pos hq, if_pos hi]
        · rw [if_neg (show ¬ (t.testBit i = false ∧ g i + w (t ||| 2 ^ i) = v) from fun z => hq z.2)] at e
          rw [e, if_neg hq]
          exact ih k (i + 1) (by omega) (by omega)
theorem m_first_16 {N b t v K : Nat} {worth total : Nat → Int64} {g w : Nat → Nat} (hb : b < 10) (ht : t < 512) (hK : K < 2 ^ 62) (hv : v ≤ K) (hf : ∀ d, d < 9 → g d + w (t ||| 2 ^ d) ≤ K) (hg : ∀ d, d < 9 → worth (9 * b + d) = lN (g d)) (hw : ∀ d, d < 9 → total (512 * (b + 1) + (511 ^^^ (t ||| 2 ^ d))) = lN (w (t ||| 2 ^ d))) (hv2 : total (512 * b + (511 ^^^ t)) = lN v) : ∀ (n k i : Nat), i + k = 9 → k < n → f_X9_firstDay_16 N worth total (nI b) (nI (511 ^^^ t)) n (nI i) = some (if fD (fun d => g d + w (t ||| 2 ^ d)) t v k i < 9 then nI (fD (fun d => g d + w (t ||| 2 ^ d)) t v k i) else -2) := by
  have hx := xor_lt ht
  intro n
  induction n with
  | zero => intro k i h1 h2; omega
  | succ n ih =>
    intro k i h1 h2
    rw [f_X9_firstDay_16.eq_2]
    have e9 : (9 ≤ nI i) = (9 ≤ i) := z_le (a := 9) (by omega) (by omega)
    cases k with
    | zero =>
      have : i = 9 := by omega
      subst this
      rw [if_pos (by decide)]; rfl
    | succ k =>
      have hi : i < 9 := by omega
      have hfi := hf i hi
      have hx2 := xor_lt (or_lt ht hi)
      have e1 : (9 : Int32) * nI b + nI i = nI (9 * b + i) := by rw [show (9 : Int32) = nI 9 from rfl, z_mul, z_add]
      have e3 : (512 : Int32) * nI b + nI (511 ^^^ t) = nI (512 * b + (511 ^^^ t)) := by rw [show (512 : Int32) = nI 512 from rfl, z_mul, z_add]
      have e2 : (512 : Int32) * (nI b + 1) + (nI (511 ^^^ t) &&& ((1 : Int32) <<< (nI i &&& 31) ^^^ (-1))) = nI (512 * (b + 1) + (511 ^^^ (t ||| 2 ^ i))) := by
        rw [z_shl1 (by omega), z_andn, c_or ht hi, nI_1, show (512 : Int32) = nI 512 from rfl, z_mul, z_add]
      have ec : (lg_cmp (lN (g i + w (t ||| 2 ^ i))) (lN v) = 0) = (g i + w (t ||| 2 ^ i) = v) := by
        rw [propext (lg_cmp_eq _ _), y_eq (by omega) (by omega)]
      rw [if_neg (by rw [e9]; omega), z_has9 (by omega) (by omega), z_ob1, c_bit ht hi, e1, e2, e3, z_gIx (by omega) (by omega), z_gIx (by omega) (by omega), z_gIx (by omega) (by omega), z_cl (n := 9 * b + i) (by omega), z_cl (n := 512 * (b + 1) + (511 ^^^ (t ||| 2 ^ i))) (by omega), z_cl (n := 512 * b + (511 ^^^ t)) (by omega), hg i hi, hw i hi, hv2, lN_add, nI_1]
      simp only [ec]
      have e : fD (fun d => g d + w (t ||| 2 ^ d)) t v (k + 1) i = if t.testBit i = false ∧ g i + w (t ||| 2 ^ i) = v then i else fD (fun d => g d + w (t ||| 2 ^ d)) t v k (i + 1) := rfl
      by_cases hbt : t.testBit i = true
      · rw [if_neg (show ¬ (t.testBit i = false ∧ g i + w (t ||| 2 ^ i) = v) from fun q => by rw [hbt] at q; exact absurd q.1 (by decide))] at e
        rw [e]
        simp only [hbt, Bool.not_true, Bool.false_eq_true, if_false, if_true]
        exact ih k (i + 1) (by omega) (by omega)
      · have hbf : t.testBit i = false := by simpa using hbt
        rw [hbf, Bool.not_false, if_pos rfl, if_neg (show ¬ (1 : Int32) = 0 by decide)]
        by_cases hq : g i + w (t ||| 2 ^ i) = v
        · rw [if_pos (show t.testBit i = false ∧ g i + w (t ||| 2 ^ i) = v from ⟨hbf, hq⟩)] at e
          rw [e, if_pos hq, if_pos hi]
        · rw [if_neg (show ¬ (t.testBit i = false ∧ g i + w (t ||| 2 ^ i) = v) from fun z => hq z.2)] at e
          rw [e, if_neg hq]
          exact ih k (i + 1) (by omega) (by omega)
