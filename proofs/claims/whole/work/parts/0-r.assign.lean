variable {G : Nat → Nat → Nat} {regions balloons letters loft start seed count turnCount : Int32} {risk distance comeback capacity pigeons weight priority turnFrom turnTo follow land aimCount aim : Nat → Int32} {mLoft mStart mSeed : Int32} {mRegions mRisk mDistance mBack mWinds mNamed mNR mNW mTurns mTF mTT mTW mBalloons mRoom mPigeons mLetters mWeight mPriority : Nat → Int32}
variable {P : Nat → Nat → Nat} {T : Nat} {day wind loftN lost lc jc : Int32} {ds : Int64} {jk jn jd bst br cg lt an ho du la mNow : Nat → Int32}
variable {wd rs : Nat} {now then_ : Nat → Int64}
theorem z_ob8 {a1 a2 a3 a4 a5 a6 a7 a8 γ : Type} {k : a1 → a2 → a3 → a4 → a5 → a6 → a7 → a8 → Option γ} {v1 : a1} {v2 : a2} {v3 : a3} {v4 : a4} {v5 : a5} {v6 : a6} {v7 : a7} {v8 : a8} : ob8 (some (v1, v2, v3, v4, v5, v6, v7, v8)) k = k v1 v2 v3 v4 v5 v6 v7 v8 := rfl
/-- the day of balloon b where the days t are taken (9: none) -/
def dF (G : Nat → Nat → Nat) (wd rs b t : Nat) : Nat := fD (fun d => gNn G wd b d + pV G wd rs (G 0 3 - (b + 1)) (t ||| 2 ^ d)) t (pV G wd rs (G 0 3 - b) t) 9 0
/-- the days that the balloons before b take -/
def tk (G : Nat → Nat → Nat) (wd rs : Nat) : Nat → Nat
  | 0 => 0
  | b + 1 => if rs.testBit b = true ∧ dF G wd rs b (tk G wd rs b) < 9 then tk G wd rs b ||| 2 ^ dF G wd rs b (tk G wd rs b) else tk G wd rs b
def cho (G : Nat → Nat → Nat) (wd rs b : Nat) : Int32 := if rs.testBit b = true then (if dF G wd rs b (tk G wd rs b) < 9 then nI (dF G wd rs b (tk G wd rs b)) else -2) else -2
theorem tk_ok : ∀ b : Nat, tk G wd rs b < 512 ∧ pc (tk G wd rs b) ≤ b
  | 0 => by unfold tk; exact ⟨by omega, by decide⟩
  | b + 1 => by
    obtain ⟨h1, h2⟩ := tk_ok b
    unfold tk
    split
    · rename_i h
      exact ⟨or_lt h1 h.2, by have := pc_or (t := tk G wd rs b) h.2; omega⟩
    · exact ⟨h1, by omega⟩
theorem s_choose_5 {N : Nat} {best gain : Nat → Int64} (hN : 3000 < N) (hG : WF G) (hrs : rs < 2 ^ 31) (hg : ∀ b d, b < G 0 3 → d < 9 → gain (b * 9 + d) = lN (gNn G wd b d)) (hb : ∀ b t, b ≤ G 0 3 → t < 512 → pc t ≤ b → best (b * 512 + t) = lN (pV G wd rs (G 0 3 - b) t)) : ∀ (n i : Nat) (a : Nat → Int32), i ≤ G 0 3 → G 0 3 - i < n → (∀ b, b < i → a b = cho G wd rs b) → ∃ y a', f_X3_chooseDays_5 N best gain (nI (G 0 3)) (nI rs) n (nI i) (nI (tk G wd rs i)) a = some (nI (G 0 3), y, a') ∧ ∀ b, b < G 0 3 → a' b = cho G wd rs b := by
  have g3 : G 0 3 ≤ 10 := hG.1.2.2.2.1
  intro n
  induction n with
  | zero => intro i a h1 h2; omega
  | succ n ih =>
    intro i a h1 h2 ha
    rw [f_X3_chooseDays_5.eq_2]
    by_cases h : i < G 0 3
    · obtain ⟨t1, t2⟩ := tk_ok (G := G) (wd := wd) (rs := rs) i
      rw [if_neg (by rw [z_le (by omega) (by omega)]; omega), z_isIn hrs (by omega), z_ob1, nI_1]
      have hup : ∀ v, v = cho G wd rs i → ∀ b, b < i + 1 → upd a i v b = cho G wd rs b := by
        intro v hv b hb1
        by_cases e : b = i
        · subst e; rw [pk_us]; exact hv
        · rw [pk_un e]; exact ha b (by omega)
      by_cases hbt : rs.testBit i = true
      · rw [if_pos hbt, if_neg (by decide)]
        have e1 : nI i * 512 + nI (tk G wd rs i) = nI (i * 512 + tk G wd rs i) := by rw [show (512 : Int32) = nI 512 from rfl, z_mul, z_add]
        have key : f_X3_firstBestDay N best gain (nI i) (nI (tk G wd rs i)) = some (if dF G wd rs i (tk G wd rs i) < 9 then nI (dF G wd rs i (tk G wd rs i)) else -2) := by
          unfold f_X3_firstBestDay
          rw [e1, z_gIx (by omega) (by omega), z_cl (by omega), hb i _ (by omega) t1 t2]
          have hr : G 0 3 - i = (G 0 3 - (i + 1)) + 1 := by omega
          have := s_first_16 (N := N) (b := i) (t := tk G wd rs i) (v := pV G wd rs (G 0 3 - i) (tk G wd rs i)) (K := (G 0 3 - (i + 1)) * gM + gM) (gain := gain) (best := best) (g := gNn G wd i) (w := pV G wd rs (G 0 3 - (i + 1))) (by omega) t1 (gM_lt (by omega)) (by
            have := pV_le (wd := wd) hG (rs := rs) (r := G 0 3 - i) (tk G wd rs i) (by omega)
            rw [hr, Nat.succ_mul] at this
            rw [hr]; exact this) (fun d hd => by
            have h1 := pV_le (wd := wd) hG (rs := rs) (r := G 0 3 - (i + 1)) (tk G wd rs i ||| 2 ^ d) (by omega)
            have h2 := gN_le (wd := wd) hG (b := i) (d := d) (by omega) (by omega)
            rw [Nat.add_comm]
            exact Nat.add_le_add h1 h2) (fun d hd => hg i d h hd) (fun d hd => hb (i + 1) _ (by omega) (or_lt t1 hd) (by have := pc_or (t := tk G wd rs i) hd; omega)) N 9 0 (by omega) (by omega)
          exact this
        rw [key, z_ob1, z_gIx (by omega) (by omega), z_cl (n := i) (by omega)]
        have et : tk G wd rs (i + 1) = if rs.testBit i = true ∧ dF G wd rs i (tk G wd rs i) < 9 then tk G wd rs i ||| 2 ^ dF G wd rs i (tk G wd rs i) else tk G wd rs i := rfl
        by_cases hd : dF G wd rs i (tk G wd rs i) < 9
        · rw [if_pos hd, if_neg (by rw [z_m2 (by omega)]; exact id), z_shl1 (by omega), z_or]
          rw [if_pos ⟨hbt, hd⟩] at et
          rw [← et]
          refine ih (i + 1) _ (by omega) (by omega) (hup _ ?_)
          unfold cho; rw [if_pos hbt, if_pos hd]
        · rw [if_neg hd, if_pos rfl]
          rw [if_neg (fun q => hd q.2)] at et
          rw [← et]
          refine ih (i + 1) _ (by omega) (by omega) (hup _ ?_)
          unfold cho; rw [if_pos hbt, if_neg hd]
      · have et : tk G wd rs (i + 1) = tk G wd rs i := if_neg (fun q => hbt q.1)
        rw [if_neg hbt, if_pos rfl, z_gIx (by omega) (by omega), if_pos rfl, z_cl (n := i) (by omega), ← et]
        refine ih (i + 1) _ (by omega) (by omega) (hup _ ?_)
        unfold cho; rw [if_neg hbt]
    · have : i = G 0 3 := by omega
      subst this
      exact ⟨_, a, by rw [if_pos (by rw [z_le (by omega) (by omega)]; omega)], ha⟩
theorem m_assigned_38 {N x : Nat} {worth total : Nat → Int64} (hN : 3000 < N) (hG : WF G) (hx : x < G 0 3) (hg : ∀ b d, b < G 0 3 → d < 9 → worth (9 * b + d) = lN (gNn G wd b d)) (hb : ∀ b s, b ≤ G 0 3 → s < 512 → total (512 * b + s) = lN (pV G wd rs (G 0 3 - b) (511 ^^^ s))) (h5 : ∀ b, b < G 0 3 → ((mNow (5 + b) = 0) ↔ rs.testBit b = true)) : ∀ (n i : Nat) (d : Int32), i ≤ x + 1 → x + 1 - i < n → (0 < i → d = cho G wd rs (i - 1)) → ∃ y s, f_X9_assignedDay_38 N mNow (nI x) worth total n (nI i) d (nI (511 ^^^ tk G wd rs i)) = some (y, cho G wd rs x, s) := by
  have g3 : G 0 3 ≤ 10 := hG.1.2.2.2.1
  intro n
  induction n with
  | zero => intro i d h1 h2; omega
  | succ n ih =>
    intro i d h1 h2 hd0
    rw [f_X9_assignedDay_38.eq_2]
    by_cases h : i ≤ x
    · obtain ⟨t1, t2⟩ := tk_ok (G := G) (wd := wd) (rs := rs) i
      have hxt := xor_lt t1
      have a5 : (5 : Int32) + nI i = nI (5 + i) := by rw [show (5 : Int32) = nI 5 from rfl, z_add]
      have key : f_X9_firstDay N mNow worth total (nI i) (nI (511 ^^^ tk G wd rs i)) = some (cho G wd rs i) := by
        unfold f_X9_firstDay
        rw [a5, z_gIx (by omega) (by omega), z_cl (by omega)]
        by_cases hbt : rs.testBit i = true
        · rw [if_pos ((h5 i (by omega)).mpr hbt)]
          have hr : G 0 3 - i = (G 0 3 - (i + 1)) + 1 := by omega
          have := m_first_16 (N := N) (b := i) (t := tk G wd rs i) (v := pV G wd rs (G 0 3 - i) (tk G wd rs i)) (K := (G 0 3 - (i + 1)) * gM + gM) (worth := worth) (total := total) (g := gNn G wd i) (w := pV G wd rs (G 0 3 - (i + 1))) (by omega) t1 (gM_lt (by omega)) (by
            have := pV_le (wd := wd) hG (rs := rs) (r := G 0 3 - i) (tk G wd rs i) (by omega)
            rw [hr, Nat.succ_mul] at this
            rw [hr]; exact this) (fun d hd => by
            have h1 := pV_le (wd := wd) hG (rs := rs) (r := G 0 3 - (i + 1)) (tk G wd rs i ||| 2 ^ d) (by omega)
            have h2 := gN_le (wd := wd) hG (b := i) (d := d) (by omega) (by omega)
            rw [Nat.add_comm]
            exact Nat.add_le_add h1 h2) (fun d hd => hg i d (by omega) hd) (fun d hd => by rw [hb (i + 1) _ (by omega) (xor_lt (or_lt t1 hd)), xx]) (by rw [hb i _ (by omega) hxt, xx]) N 9 0 (by omega) (by omega)
          rw [show nI 0 = 0 from rfl] at this
          rw [this]
          unfold cho
          rw [if_pos hbt]; rfl
        · rw [if_neg (fun q => hbt ((h5 i (by omega)).mp q))]
          unfold cho
          rw [if_neg hbt]
      rw [if_neg (by rw [z_lt (by omega) (by omega)]; omega), key, z_ob1, nI_1]
      have et : tk G wd rs (i + 1) = if rs.testBit i = true ∧ dF G wd rs i (tk G wd rs i) < 9 then tk G wd rs i ||| 2 ^ dF G wd rs i (tk G wd rs i) else tk G wd rs i := rfl
      by_cases hd : rs.testBit i = true ∧ dF G wd rs i (tk G wd rs i) < 9
      · have ec : cho G wd rs i = nI (dF G wd rs i (tk G wd rs i)) := by unfold cho; rw [if_pos hd.1, if_pos hd.2]
        rw [if_neg (by rw [ec, z_m2 (by omega)]; exact id)]
        rw [if_pos hd] at et
        have es : nI (511 ^^^ tk G wd rs i) &&& ((1 : Int32) <<< (cho G wd rs i &&& 31) ^^^ (-1)) = nI (511 ^^^ tk G wd rs (i + 1)) := by
          rw [ec, z_shl1 (by omega), z_andn, c_or t1 hd.2, et]
        rw [es]
        exact ih (i + 1) _ (by omega) (by omega) (fun _ => rfl)
      · have ec : cho G wd rs i = -2 := by
          unfold cho
          by_cases hbt : rs.testBit i = true
          · rw [if_pos hbt, if_neg (fun q => hd ⟨hbt, q⟩)]
          · rw [if_neg hbt]
        rw [if_pos ec]
        rw [if_neg hd] at et
        have es : nI (511 ^^^ tk G wd rs i) &&& nI (511 ^^^ tk G wd rs i) = nI (511 ^^^ tk G wd rs (i + 1)) := by
          rw [z_and, Nat.and_self, et]
        rw [es]
        exact ih (i + 1) _ (by omega) (by omega) (fun _ => rfl)
    · have : i = x + 1 := by omega
      subst this
      rw [if_pos (by rw [z_lt (by omega) (by omega)]; omega), hd0 (by omega), Nat.add_sub_cancel]
      exact ⟨_, _, rfl⟩
theorem s_ready_4 {N n : Nat} {bst : Nat → Int32} {q : Nat → Nat} (hn : n ≤ 10) (hq : ∀ b, b < n → bst b = nI (q b) ∧ q b < 4) : ∀ (m i a : Nat), i ≤ n → n - i < m → a = bs i (fun b => q b == 0) → f_X6_readyBalloons_4 N (nI n) bst m (nI i) (nI a) = some (nI n, nI (bs n (fun b => q b == 0))) := by
  intro m
  induction m with
  | zero => intro i a h1 h2; omega
  | succ m ih =>
    intro i a h1 h2 ha
    rw [f_X6_readyBalloons_4.eq_2]
    by_cases h : i < n
    · obtain ⟨q1, q2⟩ := hq i h
      have := ih (i + 1) (bs (i + 1) (fun b => q b == 0)) (by omega) (by omega) rfl
      rw [bs_s, ← ha] at this
      have e0 : (nI (q i) = 0) = (q i = 0) := z_eq (b := 0) (by omega) (by omega)
      rw [if_neg (by rw [z_le (by omega) (by omega)]; omega), z_gIx (by omega) (by omega), z_cl (by omega), q1, z_shl1 (by omega), z_or, nI_1]
      simp only [e0]
      by_cases e : q i = 0
      · rw [if_pos (by simp [e])] at this; rw [if_pos e]; exact this
      · rw [if_neg (by simp [e])] at this; rw [if_neg e]; exact this
    · have : i = n := by omega
      subst this
      subst ha
      rw [if_pos (by rw [z_le (by omega) (by omega)]; omega)]
theorem s_ready {N : Nat} (hN : 3000 < N) (hG : WF G) (hb : RSb G P bst br cg mNow) : f_X6_readyBalloons N (nI (G 0 3)) bst = some (nI (bs (G 0 3) (fun b => P 6 b == 0))) := by
  have g3 : G 0 3 ≤ 10 := hG.1.2.2.2.1
  unfold f_X6_readyBalloons
  exact ob2_of (s_ready_4 (N := N) (q := P 6) g3 (fun b hb1 => ⟨(hb.1 b (by omega)).1, (hb.1 b (by omega)).2.2⟩) N 0 0 (by omega) (by omega) rfl)
/-- the plan that the class keeps -/
def PCx (G : Nat → Nat → Nat) (planned pw pr : Int32) (best : Nat → Int64) (chosen : Nat → Int32) : Prop :=
  planned = 0 ∨ (planned = 1 ∧ ∃ wd rs, pw = nI wd ∧ wd < 6 ∧ pr = nI rs ∧ rs < 1024 ∧ best 0 = lN (pV G wd rs (G 0 3) 0) ∧ ∀ b, b < G 0 3 → chosen b = cho G wd rs b)
theorem e_plan {N : Nat} {planned pw pr : Int32} {best gain : Nat → Int64} {chosen : Nat → Int32} (hN : 3000 < N) (hN2 : N < 2 ^ 31) (hG : WF G) (hc : RGc G regions balloons letters loft start seed count turnCount risk distance comeback capacity pigeons weight priority turnFrom turnTo follow land aimCount aim) (hw : wd < G 0 1) (hrs : rs < 1024) (hp : PCx G planned pw pr best chosen) : ∃ a b c best' chosen', f_X3_plan N planned pw pr now regions balloons pigeons capacity comeback count land risk gain then_ follow best chosen (nI wd) (nI rs) = some (1, nI wd, nI rs, a, b, c, best', chosen') ∧ best' 0 = lN (pV G wd rs (G 0 3) 0) ∧ ∀ b, b < G 0 3 → chosen' b = cho G wd rs b := by
  have g1 : G 0 1 ≤ 6 := hG.1.2.1
  have hbl : balloons = nI (G 0 3) := hc.1.2.1
  have hnew : ∃ a b c best' chosen', f_X3_plan_j24 N now regions balloons pigeons capacity comeback count land risk gain then_ follow best chosen (nI wd) (nI rs) = some (1, nI wd, nI rs, a, b, c, best', chosen') ∧ best' 0 = lN (pV G wd rs (G 0 3) 0) ∧ ∀ b, b < G 0 3 → chosen' b = cho G wd rs b := by
    obtain ⟨w', g', t', p1, p2⟩ := s_weigh (N := N) (now := now) (then_ := then_) (gain := gain) (wd := wd) hN hN2 hG hc hw
    obtain ⟨a', q1, q2⟩ := s_fill (N := N) (rs := rs) (best := best) (wd := wd) hN hG (by omega) p2
    obtain ⟨y, c', r1, r2⟩ := s_choose_5 (N := N) (rs := rs) (wd := wd) hN hG (by omega) p2 q2 N 0 chosen (by omega) (by have := hG.1.2.2.2.1; omega) (fun b hb => absurd hb (Nat.not_lt_zero b))
    have r1' : f_X3_chooseDays N a' g' chosen (nI (G 0 3)) (nI rs) = some c' := by
      unfold f_X3_chooseDays
      exact ob3_of r1
    unfold f_X3_plan_j24
    rw [p1, z_ob3, hbl, q1, z_ob1, r1', z_ob1]
    refine ⟨_, _, _, _, _, rfl, ?_, r2⟩
    have := q2 0 0 (by omega) (by omega) (by decide)
    rw [Nat.sub_zero, Nat.zero_mul] at this
    exact this
  unfold f_X3_plan
  rcases hp with rfl | ⟨rfl, wd', rs', rfl, w1, rfl, w2, w3, w4⟩
  · rw [if_pos rfl]; exact hnew
  · rw [if_neg (by decide)]
    have e1 : (nI wd = nI wd') = (wd = wd') := z_eq (by omega) (by omega)
    have e2 : (nI rs = nI rs') = (rs = rs') := z_eq (by omega) (by omega)
    simp only [e1, e2]
    by_cases h1 : wd = wd'
    · rw [if_pos h1]
      by_cases h2 : rs = rs'
      · rw [if_pos h2]
        subst h1 h2
        exact ⟨_, _, _, _, _, rfl, w3, w4⟩
      · rw [if_neg h2]; exact hnew
    · rw [if_neg h1]; exact hnew
theorem e_assignmentTotal {N : Nat} {planned pw pr : Int32} {best gain : Nat → Int64} {chosen : Nat → Int32} {chance chanceNext worth total : Nat → Int64} (hN : 3000 < N) (hN2 : N < 2 ^ 31) (hG : WF G) (hc : RGc G regions balloons letters loft start seed count turnCount risk distance comeback capacity pigeons weight priority turnFrom turnTo follow land aimCount aim) (hm : RGm G mLoft mStart mSeed mRegions mRisk mDistance mBack mWinds mNamed mNR mNW mTurns mTF mTT mTW mBalloons mRoom mPigeons mLetters mWeight mPriority) (hn : RSn G P T day wind loftN lost ds mNow) (hb : RSb G P bst br cg mNow) (hp : PCx G planned pw pr best chosen) : ∃ r p1 p2 p3 a b c best' chosen' c' e' g' t', f_X8_assignmentTotal N regions balloons count wind bst planned pw pr now pigeons capacity comeback land risk gain then_ follow best chosen = some (r, p1, p2, p3, a, b, c, best', chosen') ∧ f_X9_assignmentTotal N mWinds mBalloons mRoom mPigeons mNow chance mTurns mTF mTW chanceNext mTT mRegions mNamed mNW mNR mRisk mBack worth total = some (r, 0, c', e', g', t') ∧ PCx G p1 p2 p3 best' chosen' := by
  have g1 : G 0 1 ≤ 6 := hG.1.2.1
  have g3 : G 0 3 ≤ 10 := hG.1.2.2.2.1
  have hcc : count = nI (G 0 1) := hc.1.2.2.2.2.2.2.1
  have hbl : balloons = nI (G 0 3) := hc.1.2.1
  have m1 : mWinds 0 = nI (G 0 1) := hm.1.2.1
  have e0 : (nI (G 0 1) = 0) = (G 0 1 = 0) := z_eq (b := 0) (by omega) (by omega)
  unfold f_X8_assignmentTotal f_X9_assignmentTotal
  rw [z_gI0 (by omega) (by omega), z_c0, m1]
  by_cases h0 : G 0 1 = 0
  · exact ⟨_, _, _, _, _, _, _, _, _, _, _, _, _, if_pos (by rw [hcc, e0]; exact h0), if_pos (by rw [e0]; exact h0), hp⟩
  have w1 := hn.2.1.2.1 (by omega)
  have hlt := bs_lt (fun b => P 6 b == 0) (G 0 3)
  have h1024 : 2 ^ G 0 3 ≤ 2 ^ 10 := Nat.pow_le_pow_right (by omega) g3
  obtain ⟨a, b, c, best', chosen', q1, q2, q3⟩ := e_plan (N := N) (wd := P 0 1) (rs := bs (G 0 3) (fun b => P 6 b == 0)) (now := now) (then_ := then_) (gain := gain) hN hN2 hG hc w1.2 (by omega) hp
  have h5 : ∀ b, b < G 0 3 → ((mNow (5 + b) = 0) ↔ (bs (G 0 3) (fun b => P 6 b == 0)).testBit b = true) := by
    intro b hb1
    obtain ⟨b1, b2, b3⟩ := hb.1 b (by omega)
    rw [b2, bs_bit, show (nI (P 6 b) = 0) = (P 6 b = 0) from z_eq (b := 0) (by omega) (by omega)]
    simp [hb1]
  obtain ⟨c', e', g', t', r1, r2, r3⟩ := m_lay (N := N) (wd := P 0 1) (rs := bs (G 0 3) (fun b => P 6 b == 0)) (mNow := mNow) (chance := chance) (chanceNext := chanceNext) (worth := worth) (total := total) hN hN2 hG hm w1.2 (by rw [hn.2.1.1]; exact w1.1) h5
  have hr := s_ready (N := N) hN hG hb
  refine ⟨lN (pV G (P 0 1) (bs (G 0 3) (fun b => P 6 b == 0)) (G 0 3) 0), 1, nI (P 0 1), nI (bs (G 0 3) (fun b => P 6 b == 0)), a, b, c, best', chosen', c', e', g', t', (if_neg (by rw [hcc, e0]; exact h0)).trans ?_, (if_neg (by rw [e0]; exact h0)).trans ?_, Or.inr ⟨rfl, P 0 1, bs (G 0 3) (fun b => P 6 b == 0), rfl, by omega, rfl, by omega, q2, q3⟩⟩
  · rw [hbl, hr, z_ob1, ← hbl, w1.1, q1, z_ob8]
    unfold f_X3_total
    rw [if_neg (by decide), z_gI0 (by omega) (by omega), z_c0, z_ob1, q2]
  · rw [r1, z_ob4, show (511 : Int32) = nI 511 from rfl, z_gIx (by omega) (by omega), z_cl (by omega)]
    have := r3 0 511 (by omega) (by omega)
    rw [Nat.mul_zero, Nat.zero_add, Nat.sub_zero, Nat.xor_self] at this
    rw [this]
theorem e_assignedDay {N : Nat} {planned pw pr : Int32} {best gain : Nat → Int64} {chosen : Nat → Int32} {chance chanceNext worth total : Nat → Int64} (hN : 3000 < N) (hN2 : N < 2 ^ 31) (hG : WF G) (hc : RGc G regions balloons letters loft start seed count turnCount risk distance comeback capacity pigeons weight priority turnFrom turnTo follow land aimCount aim) (hm : RGm G mLoft mStart mSeed mRegions mRisk mDistance mBack mWinds mNamed mNR mNW mTurns mTF mTT mTW mBalloons mRoom mPigeons mLetters mWeight mPriority) (hn : RSn G P T day wind loftN lost ds mNow) (hb : RSb G P bst br cg mNow) (hp : PCx G planned pw pr best chosen) (x1 : Int32) : ∃ r p1 p2 p3 a b c best' chosen' c' e' g' t', f_X8_assignedDay N regions balloons count wind bst planned pw pr now pigeons capacity comeback land risk gain then_ follow best chosen x1 = some (r, p1, p2, p3, a, b, c, best', chosen') ∧ f_X9_assignedDay N mBalloons mWinds mRoom mPigeons mNow chance mTurns mTF mTW chanceNext mTT mRegions mNamed mNW mNR mRisk mBack worth total x1 = some (r, 0, c', e', g', t') ∧ PCx G p1 p2 p3 best' chosen' := by
  have g1 : G 0 1 ≤ 6 := hG.1.2.1
  have g3 : G 0 3 ≤ 10 := hG.1.2.2.2.1
  have hcc : count = nI (G 0 1) := hc.1.2.2.2.2.2.2.1
  have hbl : balloons = nI (G 0 3) := hc.1.2.1
  have m1 : mWinds 0 = nI (G 0 1) := hm.1.2.1
  have e0 : (nI (G 0 1) = 0) = (G 0 1 = 0) := z_eq (b := 0) (by omega) (by omega)
  unfold f_X8_assignedDay f_X9_assignedDay
  rw [z_isB hm hG, z_ob1, z_gI0 (by omega) (by omega), z_c0, m1]
  have hhb : f_X5_hasBalloon N balloons x1 = some (if x1 < 0 ∨ nI (G 0 3) ≤ x1 then 0 else 1) := by rw [hbl]; exact z_hasB x1
  rw [hhb, z_ob1]
  simp only [z_01]
  by_cases hx : x1 < 0 ∨ nI (G 0 3) ≤ x1
  · exact ⟨_, _, _, _, _, _, _, _, _, _, _, _, _, if_pos hx, if_pos hx, hp⟩
  by_cases h0 : G 0 1 = 0
  · exact ⟨_, _, _, _, _, _, _, _, _, _, _, _, _, (if_neg hx).trans (if_pos (by rw [hcc, e0]; exact h0)), (if_neg hx).trans (if_pos (by rw [e0]; exact h0)), hp⟩
  obtain ⟨x, hx1, rfl⟩ := z_j (by omega) hx
  have w1 := hn.2.1.2.1 (by omega)
  have hlt := bs_lt (fun b => P 6 b == 0) (G 0 3)
  have h1024 : 2 ^ G 0 3 ≤ 2 ^ 10 := Nat.pow_le_pow_right (by omega) g3
  obtain ⟨a, b, c, best', chosen', q1, q2, q3⟩ := e_plan (N := N) (wd := P 0 1) (rs := bs (G 0 3) (fun b => P 6 b == 0)) (now := now) (then_ := then_) (gain := gain) hN hN2 hG hc w1.2 (by omega) hp
  have h5 : ∀ b, b < G 0 3 → ((mNow (5 + b) = 0) ↔ (bs (G 0 3) (fun b => P 6 b == 0)).testBit b = true) := by
    intro b hb1
    obtain ⟨b1, b2, b3⟩ := hb.1 b (by omega)
    rw [b2, bs_bit, show (nI (P 6 b) = 0) = (P 6 b = 0) from z_eq (b := 0) (by omega) (by omega)]
    simp [hb1]
  obtain ⟨c', e', g', t', r1, r2, r3⟩ := m_lay (N := N) (wd := P 0 1) (rs := bs (G 0 3) (fun b => P 6 b == 0)) (mNow := mNow) (chance := chance) (chanceNext := chanceNext) (worth := worth) (total := total) hN hN2 hG hm w1.2 (by rw [hn.2.1.1]; exact w1.1) h5
  obtain ⟨y, s, k1⟩ := m_assigned_38 (N := N) (x := x) (wd := P 0 1) (rs := bs (G 0 3) (fun b => P 6 b == 0)) (mNow := mNow) hN hG hx1 r2 r3 h5 N 0 (-2) (by omega) (by omega) (fun h => by omega)
  have hr := s_ready (N := N) hN hG hb
  refine ⟨cho G (P 0 1) (bs (G 0 3) (fun b => P 6 b == 0)) x, 1, nI (P 0 1), nI (bs (G 0 3) (fun b => P 6 b == 0)), a, b, c, best', chosen', c', e', g', t', (if_neg hx).trans ((if_neg (by rw [hcc, e0]; exact h0)).trans ?_), (if_neg hx).trans ((if_neg (by rw [e0]; exact h0)).trans ?_), Or.inr ⟨rfl, P 0 1, bs (G 0 3) (fun b => P 6 b == 0), rfl, by omega, rfl, by omega, q2, q3⟩⟩
  · rw [hbl, hr, z_ob1, ← hbl, w1.1, q1, z_ob8]
    unfold f_X3_dayOf
    have e10 : (10 ≤ nI x) = (10 ≤ x) := z_le (a := 10) (by omega) (by omega)
    rw [if_neg (nI_pos (by omega)), if_neg (by rw [e10]; omega), z_gIx (by omega) (by omega), z_cl (by omega), z_ob1, q3 x hx1]
  · rw [r1, z_ob4]
    rw [show tk G (P 0 1) (bs (G 0 3) (fun b => P 6 b == 0)) 0 = 0 from rfl, Nat.xor_zero] at k1
    exact ob3_of k1
