variable {G : Nat → Nat → Nat} {regions balloons letters loft start seed count turnCount : Int32} {risk distance comeback capacity pigeons weight priority turnFrom turnTo follow land aimCount aim : Nat → Int32} {mLoft mStart mSeed : Int32} {mRegions mRisk mDistance mBack mWinds mNamed mNR mNW mTurns mTF mTT mTW mBalloons mRoom mPigeons mLetters mWeight mPriority : Nat → Int32}
theorem zb_s : ∀ n, n < 32 → ((nI n &&& 31).toBitVec.smod 32).toNat = n := by decide
theorem zb_u : ∀ n, n < 32 → (((nI n).toUInt32 &&& Int32.toUInt32 31).toBitVec % 32).toNat = n := by decide
theorem z_bit {s k : Nat} (hs : s < 2 ^ 31) (hk : k < 32) : ((nI s >>> (nI k &&& 31)) &&& 1 = 1) = (s.testBit k = true) := by
  rw [pk_shrN hs _ k (zb_s k hk), pk_andN (Nat.lt_of_le_of_lt (Nat.div_le_self _ _) (by omega)) 1 (by decide), show (1 : Int32) = nI 1 from rfl, z_eq (by have := Nat.mod_lt (s / 2 ^ k) (show 2 ^ 1 > 0 by omega); omega) (by omega), Nat.testBit_eq_decide_div_mod_eq]
  exact propext ⟨fun h => decide_eq_true h, fun h => of_decide_eq_true h⟩
theorem z_shl1 {k : Nat} (hk : k < 31) : (1 : Int32) <<< (nI k &&& 31) = nI (2 ^ k) := by
  have h2 : 2 ^ k < 2 ^ 32 := Nat.pow_lt_pow_right (by omega) (by omega)
  have := pk_shlN (n := 1) (nI k &&& 31) k (zb_s k (by omega)) (by omega)
  rw [Nat.one_mul] at this
  exact this
theorem zb_bt {s i : Nat} (hi : i < 32) : (nI s).toBitVec.getLsbD i = s.testBit i := by
  show (BitVec.ofNat 32 s).getLsbD i = s.testBit i
  rw [BitVec.getLsbD_ofNat]; simp [hi]
theorem zb_ext {x y : Int32} (h : ∀ i, i < 32 → x.toBitVec.getLsbD i = y.toBitVec.getLsbD i) : x = y := Int32.toBitVec_inj.mp (BitVec.eq_of_getLsbD_eq (fun i hi => h i hi))
theorem z_or (a b : Nat) : nI a ||| nI b = nI (a ||| b) := by
  apply zb_ext; intro i hi
  rw [Int32.toBitVec_or, BitVec.getLsbD_or, zb_bt hi, zb_bt hi, zb_bt hi, Nat.testBit_or]
theorem z_and (a b : Nat) : nI a &&& nI b = nI (a &&& b) := by
  apply zb_ext; intro i hi
  rw [Int32.toBitVec_and, BitVec.getLsbD_and, zb_bt hi, zb_bt hi, zb_bt hi, Nat.testBit_and]
theorem zb_m1 : ∀ i, i < 32 → (-1 : Int32).toBitVec.getLsbD i = true := by decide
theorem z_andn (a b : Nat) : nI a &&& (nI b ^^^ (-1)) = nI (a ^^^ (a &&& b)) := by
  apply zb_ext; intro i hi
  rw [Int32.toBitVec_and, BitVec.getLsbD_and, Int32.toBitVec_xor, BitVec.getLsbD_xor, zb_bt hi, zb_bt hi, zb_bt hi, zb_m1 i hi, Nat.testBit_xor, Nat.testBit_and]
  cases a.testBit i <;> cases b.testBit i <;> rfl
/-- the set of those below n with p -/
def bs (n : Nat) (p : Nat → Bool) : Nat := sm n (fun k => if p k then 2 ^ k else 0)
theorem bs_lt (p : Nat → Bool) : ∀ n : Nat, bs n p < 2 ^ n
  | 0 => by unfold bs; rw [sm_0]; decide
  | n + 1 => by
    have := bs_lt p n
    unfold bs at this ⊢
    rw [sm_s, Nat.pow_succ]
    split <;> omega
theorem bs_s (p : Nat → Bool) (n : Nat) : bs (n + 1) p = if p n then bs n p ||| 2 ^ n else bs n p := by
  have h := bs_lt p n
  have e : bs (n + 1) p = bs n p + (if p n then 2 ^ n else 0) := rfl
  rw [e]
  split
  · have h2 := Nat.two_pow_add_eq_or_of_lt h 1
    rw [Nat.mul_one] at h2
    rw [Nat.or_comm, ← h2, Nat.add_comm]
  · rfl
theorem bs_bit (p : Nat → Bool) (i : Nat) : ∀ n : Nat, (bs n p).testBit i = (decide (i < n) && p i)
  | 0 => by unfold bs; rw [sm_0, Nat.zero_testBit]; simp
  | n + 1 => by
    rw [bs_s]
    by_cases h : p n = true
    · rw [if_pos h, Nat.testBit_or, bs_bit p i n, Nat.testBit_two_pow]
      by_cases e : n = i
      · subst e; simp [h]
      · by_cases e2 : i < n
        · simp [e, e2, show i < n + 1 by omega]
        · simp [e, e2, show ¬ i < n + 1 by omega]
    · rw [if_neg h, bs_bit p i n]
      by_cases e : n = i
      · subst e; simp at h; simp [h]
      · by_cases e2 : i < n
        · simp [e2, show i < n + 1 by omega]
        · simp [e2, show ¬ i < n + 1 by omega]
theorem bs_of {n s : Nat} (h : s < 2 ^ n) : s = bs n s.testBit := by
  apply Nat.eq_of_testBit_eq
  intro i
  rw [bs_bit]
  by_cases e : i < n
  · simp [e]
  · have : s.testBit i = false := Nat.testBit_lt_two_pow (Nat.lt_of_lt_of_le h (Nat.pow_le_pow_right (by omega) (by omega)))
    simp [this]
theorem bs_congr {p q : Nat → Bool} {n : Nat} (h : ∀ k, k < n → p k = q k) : bs n p = bs n q := sm_congr (fun k hk => by rw [h k hk])
theorem bs_or (p q : Nat → Bool) (n : Nat) : bs n p ||| bs n q = bs n (fun k => p k || q k) := by
  apply Nat.eq_of_testBit_eq; intro i
  rw [Nat.testBit_or, bs_bit, bs_bit, bs_bit]; cases decide (i < n) <;> rfl
theorem bs_andn (p q : Nat → Bool) (n : Nat) : bs n p ^^^ (bs n p &&& bs n q) = bs n (fun k => p k && !q k) := by
  apply Nat.eq_of_testBit_eq; intro i
  rw [Nat.testBit_xor, Nat.testBit_and, bs_bit, bs_bit, bs_bit]; cases decide (i < n) <;> cases p i <;> cases q i <;> rfl
theorem bs_0 {p : Nat → Bool} {n : Nat} (h : bs n p = 0) {k : Nat} (hk : k < n) : p k = false := by
  have := bs_bit p k n
  rw [h, Nat.zero_testBit] at this
  simp [hk] at this
  exact this
theorem bs_z {p : Nat → Bool} {n : Nat} (h : ∀ k, k < n → p k = false) : bs n p = 0 := (sm_congr (fun k hk => by rw [h k hk]; rfl)).trans (sm_zero n)
theorem z_p24 {n : Nat} (h : n ≤ 24) : 2 ^ n ≤ 16777216 := Nat.pow_le_pow_right (n := 2) (by omega) h
/-- is it a set of letters -/
theorem z_hasLs {N n : Nat} (hn : n ≤ 24) (x : Int32) : f_X5_hasLetters N (nI n) x = some (if x < 0 ∨ nI (2 ^ n) ≤ x then 0 else 1) := by
  unfold f_X5_hasLetters
  have hp := z_p24 hn
  obtain ⟨m, hm, rfl⟩ : ∃ m, m < 2 ^ 32 ∧ x = nI m := ⟨x.toBitVec.toNat, x.toBitVec.isLt, by apply Int32.toBitVec_inj.mp; apply BitVec.eq_of_toNat_eq; exact (pk_tn x.toBitVec.isLt).symm⟩
  have e1 := pk_ushr (nI m) (nI n) n (zb_u n (by omega))
  rw [pk_tn hm] at e1
  have e2 : ((((nI m).toUInt32 >>> ((nI n).toUInt32 &&& Int32.toUInt32 31)).toInt32) = 0) = (m < 2 ^ n) := by
    apply propext
    constructor
    · intro h
      rw [h] at e1
      have e3 : (0 : Int32).toBitVec.toNat = 0 := by decide
      rw [e3] at e1
      have := Nat.lt_mul_div_succ m (Nat.two_pow_pos n)
      rw [← e1, Nat.zero_add, Nat.mul_one] at this
      exact this
    · intro h
      apply Int32.toBitVec_inj.mp
      apply BitVec.eq_of_toNat_eq
      rw [e1, Nat.div_eq_of_lt h]; decide
  simp only [e2]
  by_cases h : m < 2 ^ n
  · rw [if_pos h, if_neg]
    exact z_nj h (by omega)
  · rw [if_neg h, if_pos]
    by_cases h3 : m < 2 ^ 31
    · right; rw [z_le (by omega) (by omega)]; omega
    · left
      rw [Int32.lt_iff_toInt_lt]
      have e4 : (nI m).toInt = (m : Int) - 2 ^ 32 := by
        have e6 : (nI m).toInt = (BitVec.ofNat 32 m).toInt := rfl
        rw [e6, BitVec.toInt_eq_toNat_cond, BitVec.toNat_ofNat, Nat.mod_eq_of_lt hm, if_neg (by omega)]
        omega
      rw [e4, show (0 : Int32).toInt = 0 from by decide]; omega
theorem z_areLs {N n : Nat} {letters : Nat → Int32} (hn : n ≤ 24) (h0 : letters 0 = nI n) (x : Int32) : f_X9_areLetters N letters x = some (if x < 0 ∨ nI (2 ^ n) ≤ x then 0 else 1) := by
  have hp := z_p24 hn
  unfold f_X9_areLetters
  rw [z_gI0 (by omega) (by omega), z_c0, h0, z_shl1 (by omega), z_within (by omega), z_ob1]
/-- the total of a set of letters -/
def tot (n : Nat) (w : Nat → Nat) (s : Nat) : Nat := sm n (fun k => if s.testBit k then w k else 0)
theorem s_total_5 {N n s : Nat} {y : Nat → Int32} {w : Nat → Nat} (hn : n ≤ 24) (hs : s < 2 ^ 31) (hw : ∀ k, k < n → y k = nI (w k)) : ∀ (m i a : Nat), i ≤ n → n - i < m → a = sm i (fun k => if s.testBit k then w k else 0) → f_X5_total_5 N (nI n) y (nI s) 24 m (nI i) (nI a) = some (nI n, nI (tot n w s)) := by
  intro m
  induction m with
  | zero => intro i a h1 h2; omega
  | succ m ih =>
    intro i a h1 h2 ha
    rw [f_X5_total_5.eq_2]
    by_cases h : i < n
    · have hw1 := hw i h
      have := ih (i + 1) (a + (if s.testBit i then w i else 0)) (by omega) (by omega) (by rw [ha, sm_s])
      rw [← nI_1 i] at this
      simp (disch := omega) only [z_le, z_bit, z_gIx, z_cl, hw1, z_add, if_neg]
      by_cases e : s.testBit i = true
      · rw [if_pos e] at this; rw [if_pos e]; exact this
      · rw [if_neg e] at this; rw [if_neg e]; exact this
    · have : i = n := by omega
      subst this
      subst ha
      simp (disch := omega) only [z_le, if_pos]
      rfl
theorem s_total {N n s : Nat} {y : Nat → Int32} {w : Nat → Nat} (hN : 100 < N) (hn : n ≤ 24) (hs : s < 2 ^ 31) (hw : ∀ k, k < n → y k = nI (w k)) : f_X5_total N 24 (nI n) y (nI s) = some (nI (tot n w s)) := by
  unfold f_X5_total
  exact ob2_of (s_total_5 (N := N) hn hs hw N 0 0 (by omega) (by omega) rfl)
theorem z_has9 {N s k : Nat} (hs : s < 2 ^ 31) (hk : k < 32) : f_X9_has N (nI s) (nI k) = some (if s.testBit k then 1 else 0) := by
  unfold f_X9_has
  simp (disch := omega) only [z_bit]
  split <;> rfl
theorem m_sumOf_5 {N n s M : Nat} {letters y : Nat → Int32} {w : Nat → Nat} (hM : n ≤ M) (hM2 : M < 2 ^ 31) (hn : n ≤ 24) (hs : s < 2 ^ 31) (h0 : letters 0 = nI n) (hw : ∀ k, k < n → y k = nI (w k)) : ∀ (m i a : Nat), i ≤ n → n - i < m → a = sm i (fun k => if s.testBit k then w k else 0) → f_X9_sumOf_5 N letters y (nI s) M m (nI i) (nI a) = some (nI n, nI (tot n w s)) := by
  intro m
  induction m with
  | zero => intro i a h1 h2; omega
  | succ m ih =>
    intro i a h1 h2 ha
    rw [f_X9_sumOf_5.eq_2]
    by_cases h : i < n
    · have hw1 := hw i h
      have := ih (i + 1) (a + (if s.testBit i then w i else 0)) (by omega) (by omega) (by rw [ha, sm_s])
      rw [← nI_1 i] at this
      rw [z_has9 hs (by omega), z_ob1, z_gI0 (by omega) (by omega), z_c0, h0]
      have e0 : nI a + 0 = nI a := z_add a 0
      simp (disch := omega) only [z_le, z_gIx, z_cl, hw1, z_add, if_neg, e0]
      by_cases e : s.testBit i = true
      · rw [if_pos e] at this; rw [if_pos e, if_neg (by decide)]; exact this
      · rw [if_neg e] at this; rw [if_neg e, if_pos rfl]; exact this
    · have : i = n := by omega
      subst this
      subst ha
      rw [z_gI0 (by omega) (by omega), z_c0, h0]
      simp (disch := omega) only [z_le, if_pos]
      rfl
theorem m_sumOf {N n s M : Nat} {letters y : Nat → Int32} {w : Nat → Nat} (hN : 100 < N) (hM : n ≤ M) (hM2 : M < 2 ^ 31) (hn : n ≤ 24) (hs : s < 2 ^ 31) (h0 : letters 0 = nI n) (hw : ∀ k, k < n → y k = nI (w k)) : f_X9_sumOf N M letters y (nI s) = some (nI (tot n w s)) := by
  unfold f_X9_sumOf
  exact ob2_of (m_sumOf_5 (N := N) hM hM2 hn hs h0 hw N 0 0 (by omega) (by omega) rfl)
theorem e_weightOf {N : Nat} (hN : 100 < N) (hG : WF G) (hc : RGc G regions balloons letters loft start seed count turnCount risk distance comeback capacity pigeons weight priority turnFrom turnTo follow land aimCount aim) (hm : RGm G mLoft mStart mSeed mRegions mRisk mDistance mBack mWinds mNamed mNR mNW mTurns mTF mTT mTW mBalloons mRoom mPigeons mLetters mWeight mPriority) (x1 : Int32) : ∃ r, f_X8_weightOf N letters weight x1 = some r ∧ f_X9_weightOf N mLetters mWeight x1 = some (r, 0) := by
  obtain ⟨⟨g0, g1, g2, g3, g4, g5, g6, g7⟩, gr, ⟨gna, gn1, gn2, gn3⟩, ⟨gt1, gt2, gt3⟩, gb, gl⟩ := hG
  obtain ⟨⟨rfl, rfl, rfl, rfl, rfl, rfl, rfl, rfl⟩, cr, cb, cl, ct, cf, cla, cac, cai⟩ := hc
  obtain ⟨⟨m0, m1, m2, m3, m4, rfl, rfl, rfl⟩, mr, mb, ml, mt, mna, mnr⟩ := hm
  have hp := z_p24 g4
  unfold f_X8_weightOf f_X9_weightOf
  rw [z_hasLs g4, z_ob1, z_areLs g4 m4, z_ob1]
  simp only [z_01]
  by_cases h : x1 < 0 ∨ nI (2 ^ G 0 4) ≤ x1
  · exact ⟨_, if_pos h, if_pos h⟩
  obtain ⟨s, hs, rfl⟩ := z_j (by omega) h
  refine ⟨nI (tot (G 0 4) (G 12) s), (if_neg h).trans ?_, (if_neg h).trans ?_⟩
  · rw [s_total hN g4 (by omega) (fun k hk => (cl k hk).1), z_ob1]
  · rw [m_sumOf hN (by omega) (by omega) g4 (by omega) m4 (fun k hk => (ml k hk).1), z_ob1]
theorem e_priorityOf {N : Nat} (hN : 100 < N) (hG : WF G) (hc : RGc G regions balloons letters loft start seed count turnCount risk distance comeback capacity pigeons weight priority turnFrom turnTo follow land aimCount aim) (hm : RGm G mLoft mStart mSeed mRegions mRisk mDistance mBack mWinds mNamed mNR mNW mTurns mTF mTT mTW mBalloons mRoom mPigeons mLetters mWeight mPriority) (x1 : Int32) : ∃ r, f_X8_priorityOf N letters priority x1 = some r ∧ f_X9_priorityOf N mLetters mPriority x1 = some (r, 0) := by
  obtain ⟨⟨g0, g1, g2, g3, g4, g5, g6, g7⟩, gr, ⟨gna, gn1, gn2, gn3⟩, ⟨gt1, gt2, gt3⟩, gb, gl⟩ := hG
  obtain ⟨⟨rfl, rfl, rfl, rfl, rfl, rfl, rfl, rfl⟩, cr, cb, cl, ct, cf, cla, cac, cai⟩ := hc
  obtain ⟨⟨m0, m1, m2, m3, m4, rfl, rfl, rfl⟩, mr, mb, ml, mt, mna, mnr⟩ := hm
  have hp := z_p24 g4
  unfold f_X8_priorityOf f_X9_priorityOf
  rw [z_hasLs g4, z_ob1, z_areLs g4 m4, z_ob1]
  simp only [z_01]
  by_cases h : x1 < 0 ∨ nI (2 ^ G 0 4) ≤ x1
  · exact ⟨_, if_pos h, if_pos h⟩
  obtain ⟨s, hs, rfl⟩ := z_j (by omega) h
  refine ⟨nI (tot (G 0 4) (G 13) s), (if_neg h).trans ?_, (if_neg h).trans ?_⟩
  · rw [s_total hN g4 (by omega) (fun k hk => (cl k hk).2), z_ob1]
  · rw [m_sumOf hN (by omega) (by omega) g4 (by omega) m4 (fun k hk => (ml k hk).2), z_ob1]
