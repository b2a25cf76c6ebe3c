variable {G : Nat → Nat → Nat} {regions balloons letters loft start seed count turnCount : Int32} {risk distance comeback capacity pigeons weight priority turnFrom turnTo follow land aimCount aim : Nat → Int32} {mLoft mStart mSeed : Int32} {mRegions mRisk mDistance mBack mWinds mNamed mNR mNW mTurns mTF mTT mTW mBalloons mRoom mPigeons mLetters mWeight mPriority : Nat → Int32}
variable {P : Nat → Nat → Nat} {T : Nat} {day wind loftN lost lc jc : Int32} {ds : Int64} {jk jn jd bst br cg lt an ho du la mNow : Nat → Int32}
/-- the best load -/
def Best (wt : Nat → Bool) (w p : Nat → Nat) (n cap s : Nat) : Prop :=
  Adm wt n s ∧ tot n w s ≤ cap ∧ (∀ s', Adm wt n s' → tot n w s' ≤ cap → tot n p s' ≤ tot n p s) ∧ (∀ s', Adm wt n s' → tot n w s' ≤ cap → tot n p s' = tot n p s → tot n w s < tot n w s' ∨ (tot n w s = tot n w s' ∧ s ≤ s'))
theorem Best_uni {wt : Nat → Bool} {w p : Nat → Nat} {n cap s t : Nat} (hs : Best wt w p n cap s) (ht : Best wt w p n cap t) : s = t := by
  obtain ⟨a1, a2, a3, a4⟩ := hs
  obtain ⟨b1, b2, b3, b4⟩ := ht
  have h1 := a3 t b1 b2
  have h2 := b3 s a1 a2
  have h3 := a4 t b1 b2 (by omega)
  have h4 := b4 s a1 a2 (by omega)
  omega
theorem s_fillL {N : Nat} {v : Int64} : ∀ (n i : Nat) (a : Nat → Int64), i ≤ 217 → 217 - i < n → (∀ q, q < i → a q = v) → ∃ a', f_J7_fill_d0a16_6 N v 217 (nI 217) n (nI i) a = some (nI 217, a') ∧ ∀ q, q < 217 → a' q = v := by
  intro n
  induction n with
  | zero => intro i a h1 h2; omega
  | succ n ih =>
    intro i a h1 h2 ha
    rw [f_J7_fill_d0a16_6.eq_2]
    by_cases h : i < 217
    · rw [if_neg (by rw [z_le (by omega) (by omega)]; omega), z_gIx (by omega) (by omega), z_cl (by omega), nI_1]
      refine ih (i + 1) _ (by omega) (by omega) (fun q hq => ?_)
      by_cases e : q = i
      · subst e; rw [pk_uLs]
      · rw [pk_uLn e]; exact ha q (by omega)
    · have : i = 217 := by omega
      subst this
      exact ⟨a, by rw [if_pos (by rw [z_le (by omega) (by omega)]; omega)], ha⟩
theorem s_allow_5 {N a p : Nat} {L : Nat → Nat} (hp : 1 ≤ p) (hp9 : p ≤ 9) (ha : a < 2 ^ 36) (hL : ∀ q, q ≤ 216 → L q ≤ K60) : ∀ (n t : Nat) (arr : Nat → Int64), t ≤ 216 → p ≤ t + 1 → t < n → (∀ q, q ≤ 216 → arr q = lN (if t < q then LN_ L a p q else L q)) → ∃ y a', f_X2_allow_5 N (lN a) (nI p) n (nI t) arr = some (y, a') ∧ ∀ q, q ≤ 216 → a' q = lN (LN_ L a p q) := by
  have hK : K60 < 2 ^ 61 := by unfold K60; decide
  intro n
  induction n with
  | zero => intro t arr h1 h2 h3; omega
  | succ n ih =>
    intro t arr h1 h2 h3 h4
    rw [f_X2_allow_5.eq_2]
    by_cases h : t < p
    · refine ⟨_, arr, by rw [if_pos (by rw [z_lt (by omega) (by omega)]; exact h)], fun q hq => ?_⟩
      rw [h4 q hq]
      by_cases e : t < q
      · rw [if_pos e]
      · rw [if_neg e]
        have : LN_ L a p q = L q := if_pos (by omega)
        rw [this]
    · rw [if_neg (by rw [z_lt (by omega) (by omega)]; exact h), if_neg (nI_pos (by omega)), z_gIx (i := t) (by omega) (by omega), z_sub (by omega), z_gIx (i := t - p) (by omega) (by omega), z_gIx (i := t) (by omega) (by omega), z_cl (n := t) (by omega), z_cl (n := t - p) (by omega), h4 t h1, h4 (t - p) (by omega), if_neg (show ¬ t < t by omega), if_neg (show ¬ t < t - p by omega), lN_add]
      obtain ⟨t', rfl⟩ : ∃ t', t = t' + 1 := ⟨t - 1, by omega⟩
      have l1 := hL (t' + 1) h1
      have l2 := hL (t' + 1 - p) (by omega)
      have em : (if lN (L (t' + 1 - p) + a) < lN (L (t' + 1)) then lN (L (t' + 1 - p) + a) else lN (L (t' + 1))) = lN (LN_ L a p (t' + 1)) := by
        have e1 : LN_ L a p (t' + 1) = if L (t' + 1 - p) + a < L (t' + 1) then L (t' + 1 - p) + a else L (t' + 1) := if_neg (by omega)
        rw [e1]
        simp (disch := omega) only [y_lt]
        split <;> rfl
      rw [em, show nI (t' + 1) + (-1) = nI t' from pk_m1 t']
      refine ih t' _ (by omega) (by omega) (by omega) (fun q hq => ?_)
      by_cases e : q = t' + 1
      · rw [e, pk_uLs, if_pos (by omega)]
      · rw [pk_uLn e, h4 q hq]
        by_cases e2 : t' + 1 < q
        · rw [if_pos e2, if_pos (by omega)]
        · rw [if_neg e2, if_neg (by omega)]
theorem s_allow {N a p : Nat} {L : Nat → Nat} {arr : Nat → Int64} (hN : 3000 < N) (hp : 1 ≤ p) (hp9 : p ≤ 9) (ha : a < 2 ^ 36) (hL : ∀ q, q ≤ 216 → L q ≤ K60) (h4 : ∀ q, q ≤ 216 → arr q = lN (L q)) : ∃ a', f_X2_allow N arr (lN a) (nI p) = some a' ∧ ∀ q, q ≤ 216 → a' q = lN (LN_ L a p q) := by
  obtain ⟨y, a', p1, p2⟩ := s_allow_5 (N := N) hp hp9 ha hL N 216 arr (by omega) (by omega) (by omega) (fun q hq => by rw [h4 q hq, if_neg (by omega)])
  unfold f_X2_allow
  exact ⟨a', ob2_of p1, p2⟩
theorem s_best_20 {N n wset : Nat} {weight priority : Nat → Int32} {w p : Nat → Nat} {wt : Nat → Bool} (hN : 3000 < N) (hn : n ≤ 24) (hs : wset < 2 ^ 31) (hwt : ∀ k, k < n → wset.testBit k = wt k) (hw : ∀ k, k < n → weight k = nI (w k) ∧ w k ≤ 99) (hp : ∀ k, k < n → priority k = nI (p k) ∧ 1 ≤ p k ∧ p k ≤ 9) : ∀ (m i : Nat) (arr : Nat → Int64) (L : Nat → Nat), i ≤ n → n - i < m → LI wt w p i L → (∀ q, q ≤ 216 → arr q = lN (L q)) → ∃ a' L', f_X2_best_20 N (nI n) weight priority (nI wset) m (nI i) arr = some (nI n, a') ∧ LI wt w p n L' ∧ ∀ q, q ≤ 216 → a' q = lN (L' q) := by
  intro m
  induction m with
  | zero => intro i arr L h1 h2; omega
  | succ m ih =>
    intro i arr L h1 h2 hL ha
    rw [f_X2_best_20.eq_2]
    by_cases h : i < n
    · obtain ⟨w1, w2⟩ := hw i h
      obtain ⟨p1, p2, p3⟩ := hp i h
      rw [if_neg (by rw [z_le (by omega) (by omega)]; omega)]
      simp (disch := omega) only [z_bit]
      rw [hwt i h, nI_1]
      by_cases hb : wt i = true
      · have h24 : 2 ^ i ≤ 2 ^ 24 := Nat.pow_le_pow_right (by omega) (by omega)
        have ea : ((nI (w i)).toInt64 <<< ((24 : Int32).toInt64 &&& 63)) + ((1 : Int64) <<< ((nI i).toInt64 &&& 63)) = lN (w i * 16777216 + 2 ^ i) := by
          rw [z_l (by omega), show (24 : Int32) = nI 24 from rfl, wb_shl _ (by omega), show (1 : Int64) = lN 1 from rfl, wb_shl _ (by omega), lN_add, Nat.one_mul]
        obtain ⟨a1, q1, q2⟩ := s_allow (N := N) (a := w i * 16777216 + 2 ^ i) (p := p i) (L := L) (arr := arr) hN p2 p3 (by omega) (fun q hq => LI_le (by omega) (fun k hk => (hw k (by omega)).2) hL hq) ha
        rw [if_pos hb, z_gIx (by omega) (by omega), z_gIx (by omega) (by omega), z_cl (by omega), w1, p1, ea, q1, z_ob1]
        exact ih (i + 1) a1 _ (by omega) (by omega) (LI_take (by omega) (fun k hk => (hw k (by omega)).2) hb hL) q2
      · rw [if_neg hb]
        exact ih (i + 1) arr L (by omega) (by omega) (LI_skip (by simpa using hb) hL) ha
    · have : i = n := by omega
      subst this
      exact ⟨arr, L, by rw [if_pos (by rw [z_le (by omega) (by omega)]; omega)], hL, ha⟩
theorem s_best_81 {N n cap : Nat} {arr : Nat → Int64} {L w p : Nat → Nat} {wt : Nat → Bool} (hn : n ≤ 24) (hcap : cap ≤ 999) (hw : ∀ k, k < n → w k ≤ 99) (hp : ∀ k, k < n → p k ≤ 9) (hL : LI wt w p n L) (ha : ∀ q, q ≤ 216 → arr q = lN (L q)) : ∀ (m t : Nat), t ≤ 216 → t < m → (∀ s, Adm wt n s → tot n w s ≤ cap → tot n p s ≤ t) → ∃ s, f_X2_best_81 N (nI cap) arr m (nI t) = some (nI s, arr) ∧ Best wt w p n cap s := by
  have hK : K60 < 2 ^ 61 := by unfold K60; decide
  have h24 : 2 ^ n ≤ 2 ^ 24 := Nat.pow_le_pow_right (by omega) hn
  intro m
  induction m with
  | zero => intro t h1 h2; omega
  | succ m ih =>
    intro t h1 h2 hmax
    rw [f_X2_best_81.eq_2]
    cases t with
    | zero =>
      refine ⟨0, by rw [if_pos (by decide)]; rfl, ⟨Nat.two_pow_pos n, fun k _ hb => by rw [Nat.zero_testBit] at hb; cases hb⟩, ?_, fun s' h3 h4 => ?_, fun s' h3 h4 h5 => ?_⟩
      · have : tot n w 0 = 0 := (sm_congr (fun k _ => by rw [Nat.zero_testBit]; rfl)).trans (sm_zero n)
        rw [this]; exact Nat.zero_le _
      · have := hmax s' h3 h4; omega
      · have : tot n w 0 = 0 := (sm_congr (fun k _ => by rw [Nat.zero_testBit]; rfl)).trans (sm_zero n)
        rw [this]; omega
    | succ t =>
      have hLt := LI_le hn hw hL h1
      have e0 : (nI (t + 1) ≤ 0) = (t + 1 ≤ 0) := z_le (b := 0) (by omega) (by omega)
      have ec : (0 < lg_cmp (lN (L (t + 1)) >>> ((24 : Int32).toInt64 &&& 63)) (nI cap).toInt64) = (cap < L (t + 1) / 16777216) := by
        rw [y_shr (by omega), z_l (by omega), propext (lg_cmp_gt _ _), y_lt (by omega) (by omega)]
      rw [if_neg (by rw [e0]; omega), z_gIx (by omega) (by omega), z_gIx (by omega) (by omega), z_cl (by omega), ha _ h1]
      simp only [ec]
      by_cases hc : cap < L (t + 1) / 16777216
      · rw [if_pos hc, show nI (t + 1) + (-1) = nI t from pk_m1 t]
        refine ih t (by omega) (by omega) (fun s h3 h4 => ?_)
        have h5 := hmax s h3 h4
        by_cases e : tot n p s = t + 1
        · exfalso
          rcases hL (t + 1) h1 with ⟨k1, k2⟩ | ⟨s0, k1, k2, k3, k4⟩
          · exact k2 s h3 e
          · have := k4 s h3 e
            have h6 := k1.1
            have h7 := h3.1
            omega
        · omega
      · rw [if_neg hc]
        rcases hL (t + 1) h1 with ⟨k1, k2⟩ | ⟨s, k1, k2, k3, k4⟩
        · exfalso
          rw [k1] at hc
          unfold K60 at hc; omega
        · have hs := k1.1
          refine ⟨s, ?_, k1, by omega, fun s' h3 h4 => by rw [k2]; exact hmax s' h3 h4, fun s' h3 h4 h5 => ?_⟩
          · have em : lN (L (t + 1)) &&& 16777215 = lN (L (t + 1) % 2 ^ 24) := wb_mask (k := 24) (by omega) (by omega)
            rw [em, k3, lN_i, show (tot n w s * 16777216 + s) % 2 ^ 24 = s by omega]
          · have h6 := k4 s' h3 (by rw [h5, k2])
            have h7 := h3.1
            omega
theorem s_loadBest {N n wset cap : Nat} {lightest : Nat → Int64} {weight priority : Nat → Int32} {w p : Nat → Nat} {wt : Nat → Bool} (hN : 3000 < N) (hn : n ≤ 24) (hs : wset < 2 ^ 31) (hcap : cap ≤ 999) (hwt : ∀ k, k < n → wset.testBit k = wt k) (hw : ∀ k, k < n → weight k = nI (w k) ∧ w k ≤ 99) (hp : ∀ k, k < n → priority k = nI (p k) ∧ 1 ≤ p k ∧ p k ≤ 9) : ∃ s a', f_X2_best N lightest (nI n) weight priority (nI wset) (nI cap) = some (nI s, a') ∧ Best wt w p n cap s := by
  obtain ⟨a1, p1, p2⟩ := s_fillL (N := N) (v := 1152921504606846976) N 0 lightest (by omega) (by omega) (fun q hq => absurd hq (Nat.not_lt_zero q))
  rw [show nI 0 = 0 from rfl] at p1
  have p1' : f_J7_fill_d0a16 N 217 lightest 1152921504606846976 = some a1 := by unfold f_J7_fill_d0a16; exact ob2_of p1
  obtain ⟨a2, L', q1, q2, q3⟩ := s_best_20 (N := N) hN hn hs hwt hw hp N 0 (vp_updL a1 0 0) _ (by omega) (by omega) (LI_0 wt w p) (fun q hq => by
    by_cases e : q = 0
    · subst e; rw [pk_uLs, if_pos rfl]; rfl
    · rw [pk_uLn e, if_neg e, p2 q (by omega)]; rfl)
  obtain ⟨s, r1, r2⟩ := s_best_81 (N := N) (cap := cap) hn hcap (fun k hk => (hw k hk).2) (fun k hk => (hp k hk).2.2) q2 q3 N 216 (by omega) (by omega) (fun s h1 h2 => by
    have := tot_le (s := s) (fun k hk => (hp k hk).2.2)
    have h6 : n * 9 ≤ 24 * 9 := Nat.mul_le_mul_right 9 hn
    omega)
  unfold f_X2_best
  rw [show nI 0 = 0 from rfl] at q1
  rw [p1', z_ob1, z_gI0 (by omega) (by omega), z_c0, q1, z_ob2]
  exact ⟨s, a2, r1, r2⟩
