variable {G : Nat → Nat → Nat} {regions balloons letters loft start seed count turnCount : Int32} {risk distance comeback capacity pigeons weight priority turnFrom turnTo follow land aimCount aim : Nat → Int32} {mLoft mStart mSeed : Int32} {mRegions mRisk mDistance mBack mWinds mNamed mNR mNW mTurns mTF mTT mTW mBalloons mRoom mPigeons mLetters mWeight mPriority : Nat → Int32}
variable {wd : Nat} {mNow : Nat → Int32}
def gM : Nat := 99900000000000000
theorem gM_lt {r : Nat} (h : r ≤ 9) : r * gM + gM < 2 ^ 62 := by
  have h1 : r * gM ≤ 9 * gM := Nat.mul_le_mul_right gM h
  have h2 : 9 * gM + gM < 2 ^ 62 := by unfold gM; decide
  omega
/-- what a balloon gains on a day -/
def gNn (G : Nat → Nat → Nat) (wd b d : Nat) : Nat := G 10 b * (aC G wd d (G 11 b) * 10 ^ (12 - d - G 11 b))
/-- the best total of the last r balloons, where the days t are taken -/
def pV (G : Nat → Nat → Nat) (wd rs : Nat) : Nat → Nat → Nat
  | 0 => fun _ => 0
  | r + 1 => fun t => if rs.testBit (G 0 3 - (r + 1)) then pM (fun d => gNn G wd (G 0 3 - (r + 1)) d + pV G wd rs r (t ||| 2 ^ d)) t 9 (pV G wd rs r t) else pV G wd rs r t
theorem gN_le (hG : WF G) {b d : Nat} (hb : b < G 0 3) (hd : d ≤ 8) : gNn G wd b d ≤ gM := by
  obtain ⟨⟨g0, g1, g2, g3, g4, g5, g6, g7⟩, gr, ⟨gna, gn1, gn2, gn3⟩, ⟨gt1, gt2, gt3⟩, gb, gl⟩ := hG
  obtain ⟨b1, b2, b3⟩ := gb b hb
  have h1 := aC_lt (wd := wd) (G := G) ⟨⟨g0, g1, g2, g3, g4, g5, g6, g7⟩, gr, ⟨gna, gn1, gn2, gn3⟩, ⟨gt1, gt2, gt3⟩, gb, gl⟩ hd b3
  have h2 : aC G wd d (G 11 b) * 10 ^ (12 - d - G 11 b) ≤ 10 ^ (d + 2 + G 11 b) * 10 ^ (12 - d - G 11 b) := Nat.mul_le_mul_right _ h1
  rw [← Nat.pow_add, show d + 2 + G 11 b + (12 - d - G 11 b) = 14 by omega] at h2
  unfold gNn
  have h3 : G 10 b * (aC G wd d (G 11 b) * 10 ^ (12 - d - G 11 b)) ≤ 999 * 10 ^ 14 := Nat.mul_le_mul b2 h2
  have h4 : 999 * 10 ^ 14 = gM := by unfold gM; decide
  rw [← h4]; exact h3
theorem pV_le (hG : WF G) {rs : Nat} : ∀ {r : Nat} (t : Nat), r ≤ G 0 3 → pV G wd rs r t ≤ r * gM
  | 0, t, _ => Nat.zero_le _
  | r + 1, t, hr => by
    have ih := fun t => pV_le hG (rs := rs) (r := r) t (by omega)
    unfold pV
    split
    · rw [Nat.succ_mul]
      refine pM_le (K := r * gM + gM) (Nat.le_trans (ih t) (Nat.le_add_right _ _)) (fun d hd _ => ?_) (by omega)
      have h1 := ih (t ||| 2 ^ d)
      have h2 := gN_le (wd := wd) hG (b := G 0 3 - (r + 1)) (d := d) (by omega) (by omega)
      rw [Nat.add_comm]
      exact Nat.add_le_add h1 h2
    · rw [Nat.succ_mul]; exact Nat.le_trans (ih t) (Nat.le_add_right _ _)
/-- the row of 0 -/
theorem s_fill_2 {N b : Nat} (hb : b ≤ 10) : ∀ (n i : Nat) (a : Nat → Int64), i ≤ 512 → 512 - i < n → (∀ t, t < i → a (b * 512 + t) = lN 0) → ∃ a', f_X3_fillBest_2 N (nI b) n (nI i) a = some (nI 512, a') ∧ ∀ t, t < 512 → a' (b * 512 + t) = lN 0 := by
  intro n
  induction n with
  | zero => intro i a h1 h2; omega
  | succ n ih =>
    intro i a h1 h2 ha
    rw [f_X3_fillBest_2.eq_2]
    have e9 : (512 ≤ nI i) = (512 ≤ i) := z_le (a := 512) (by omega) (by omega)
    by_cases h : i < 512
    · have e1 : nI b * 512 + nI i = nI (b * 512 + i) := by rw [show (512 : Int32) = nI 512 from rfl, z_mul, z_add]
      rw [if_neg (by rw [e9]; omega), e1, z_gIx (by omega) (by omega), z_cl (by omega), nI_1]
      refine ih (i + 1) _ (by omega) (by omega) (fun t ht => ?_)
      by_cases e : t = i
      · subst e; rw [pk_uLs]; rfl
      · rw [pk_uLn (by omega)]; exact ha t (by omega)
    · have : i = 512 := by omega
      subst this
      exact ⟨a, if_pos (by decide), ha⟩
theorem s_fill_39 {N b r rs : Nat} {gain : Nat → Int64} (hN : 3000 < N) (hG : WF G) (hrs : rs < 2 ^ 31) (hb : b + 1 + r = G 0 3) (hg : ∀ d, d < 9 → gain (b * 9 + d) = lN (gNn G wd b d)) : ∀ (n i : Nat) (a a0 : Nat → Int64), i ≤ 512 → 512 - i < n → (∀ t, t < 512 → pc t ≤ b + 1 → a ((b + 1) * 512 + t) = lN (pV G wd rs r t)) → (∀ t, t < i → pc t ≤ b → a (b * 512 + t) = lN (pV G wd rs (r + 1) t)) → (∀ q, (b + 1) * 512 ≤ q → a q = a0 q) → ∃ a', f_X3_fillBest_39 N gain (nI rs) (nI b) n (nI i) a = some (nI 512, a') ∧ (∀ t, t < 512 → pc t ≤ b → a' (b * 512 + t) = lN (pV G wd rs (r + 1) t)) ∧ ∀ q, (b + 1) * 512 ≤ q → a' q = a0 q := by
  have g3 : G 0 3 ≤ 10 := hG.1.2.2.2.1
  intro n
  induction n with
  | zero => intro i a a0 h1 h2; omega
  | succ n ih =>
    intro i a a0 h1 h2 hr ha hq
    rw [f_X3_fillBest_39.eq_2]
    have e9 : (512 ≤ nI i) = (512 ≤ i) := z_le (a := 512) (by omega) (by omega)
    by_cases h : i < 512
    · have hpc : pc i ≤ 9 := by
        have := sm_le (f := fun k => if i.testBit k then 1 else 0) (g := fun _ => 1) (n := 9) (fun k _ => by split <;> omega)
        rw [sm_const] at this
        unfold pc; omega
      rw [if_neg (by rw [e9]; omega), s_bitCount N i h, z_ob1, nI_1]
      have ec : (nI b < nI (pc i)) = (b < pc i) := z_lt (by omega) (by omega)
      simp only [ec]
      by_cases hc : b < pc i
      · rw [if_pos hc]
        exact ih (i + 1) a a0 (by omega) (by omega) hr (fun t ht hp => ha t (by
          have : t ≠ i := fun e => by rw [e] at hp; omega
          omega) hp) hq
      · rw [if_neg hc, z_isIn hrs (by omega), z_ob1]
        have val : f_X3_bestFrom N a gain (nI b) (nI i) (if rs.testBit b = true then 1 else 0) = some (lN (pV G wd rs (r + 1) i)) := by
          unfold f_X3_bestFrom
          have e2 : (nI b + 1) * 512 + nI i = nI ((b + 1) * 512 + i) := by rw [nI_1, show (512 : Int32) = nI 512 from rfl, z_mul, z_add]
          rw [e2, z_gIx (by omega) (by omega), z_cl (by omega), hr i h (by omega)]
          have eV : pV G wd rs (r + 1) i = if rs.testBit b then pM (fun d => gNn G wd b d + pV G wd rs r (i ||| 2 ^ d)) i 9 (pV G wd rs r i) else pV G wd rs r i := by
            show (if rs.testBit (G 0 3 - (r + 1)) then pM (fun d => gNn G wd (G 0 3 - (r + 1)) d + pV G wd rs r (i ||| 2 ^ d)) i 9 (pV G wd rs r i) else pV G wd rs r i) = _
            rw [show G 0 3 - (r + 1) = b by omega]
          rw [eV]
          by_cases hb2 : rs.testBit b = true
          · rw [if_pos hb2, if_neg (by decide), if_pos hb2]
            have := s_bestFrom_26 (N := N) (b := b) (t := i) (m := pV G wd rs r i) (K := r * gM + gM) (gain := gain) (best := a) (g := gNn G wd b) (w := pV G wd rs r) (by omega) h (gM_lt (by omega)) (Nat.le_trans (pV_le (wd := wd) hG (rs := rs) (r := r) i (by omega)) (Nat.le_add_right _ _)) (fun d hd _ => by
              have h1 := pV_le (wd := wd) hG (rs := rs) (r := r) (i ||| 2 ^ d) (by omega)
              have h2 := gN_le (wd := wd) hG (b := b) (d := d) (by omega) (by omega)
              rw [Nat.add_comm]
              exact Nat.add_le_add h1 h2) hg (fun d hd => hr _ (or_lt h hd) (by have := pc_or (t := i) hd; omega)) N 0 (by omega) (by omega)
            exact ob2_of this
          · rw [if_neg hb2, if_pos rfl, if_neg hb2]
        have e1 : nI b * 512 + nI i = nI (b * 512 + i) := by rw [show (512 : Int32) = nI 512 from rfl, z_mul, z_add]
        rw [val, z_ob1, e1, z_gIx (by omega) (by omega), z_cl (by omega)]
        refine ih (i + 1) _ a0 (by omega) (by omega) (fun t ht hp => ?_) (fun t ht hp => ?_) (fun q hq1 => ?_)
        · rw [pk_uLn (by omega)]; exact hr t ht hp
        · by_cases e : t = i
          · subst e; rw [pk_uLs]
          · rw [pk_uLn (by omega)]; exact ha t (by omega) hp
        · rw [pk_uLn (by omega)]; exact hq q hq1
    · have : i = 512 := by omega
      subst this
      exact ⟨a, if_pos (by decide), ha, hq⟩
theorem s_fill_32 {N rs : Nat} {gain : Nat → Int64} (hN : 3000 < N) (hG : WF G) (hrs : rs < 2 ^ 31) (hg : ∀ b d, b < G 0 3 → d < 9 → gain (b * 9 + d) = lN (gNn G wd b d)) : ∀ (n k : Nat) (a : Nat → Int64), k ≤ G 0 3 → k < n → (∀ b t, k ≤ b → b ≤ G 0 3 → t < 512 → pc t ≤ b → a (b * 512 + t) = lN (pV G wd rs (G 0 3 - b) t)) → ∃ y a', f_X3_fillBest_32 N gain (nI rs) n (nI k - 1) a = some (y, a') ∧ (∀ b t, b ≤ G 0 3 → t < 512 → pc t ≤ b → a' (b * 512 + t) = lN (pV G wd rs (G 0 3 - b) t)) := by
  have g3 : G 0 3 ≤ 10 := hG.1.2.2.2.1
  intro n
  induction n with
  | zero => intro k a h1 h2; omega
  | succ n ih =>
    intro k a h1 h2 ha
    rw [f_X3_fillBest_32.eq_2]
    cases k with
    | zero =>
      rw [if_pos (by decide)]
      exact ⟨_, a, rfl, fun b t h1 h2 h3 => ha b t (by omega) h1 h2 h3⟩
    | succ b =>
      rw [nI_pred, if_neg (nI_pos (by omega))]
      obtain ⟨a', p1, p2, p3⟩ := s_fill_39 (N := N) (b := b) (r := G 0 3 - (b + 1)) (rs := rs) (wd := wd) hN hG hrs (by omega) (fun d hd => hg b d (by omega) hd) N 0 a a (by omega) (by omega) (fun t ht hp => ha (b + 1) t (by omega) (by omega) ht hp) (fun t ht => absurd ht (Nat.not_lt_zero t)) (fun _ _ => rfl)
      rw [show nI 0 = 0 from rfl] at p1
      rw [p1, z_ob2, show nI b + (-1) = nI b - 1 from (Int32.sub_eq_add_neg _ _).symm]
      refine ih b a' (by omega) (by omega) (fun b' t hb1 hb2 ht hp => ?_)
      by_cases e : b' = b
      · subst e
        rw [p2 t ht hp, show G 0 3 - (b' + 1) + 1 = G 0 3 - b' by omega]
      · rw [p3 _ (by omega)]; exact ha b' t (by omega) hb2 ht hp
theorem s_fill {N rs : Nat} {gain best : Nat → Int64} (hN : 3000 < N) (hG : WF G) (hrs : rs < 2 ^ 31) (hg : ∀ b d, b < G 0 3 → d < 9 → gain (b * 9 + d) = lN (gNn G wd b d)) : ∃ a', f_X3_fillBest N best gain (nI (G 0 3)) (nI rs) = some a' ∧ (∀ b t, b ≤ G 0 3 → t < 512 → pc t ≤ b → a' (b * 512 + t) = lN (pV G wd rs (G 0 3 - b) t)) := by
  have g3 : G 0 3 ≤ 10 := hG.1.2.2.2.1
  obtain ⟨a, p1, p2⟩ := s_fill_2 (N := N) g3 N 0 best (by omega) (by omega) (fun t ht => absurd ht (Nat.not_lt_zero t))
  obtain ⟨y, a', q1, q2⟩ := s_fill_32 (N := N) (rs := rs) (wd := wd) hN hG hrs hg N (G 0 3) a (by omega) (by omega) (fun b t h1 h2 h3 h4 => by
    have : b = G 0 3 := by omega
    subst this
    rw [p2 t h3, Nat.sub_self]; rfl)
  unfold f_X3_fillBest
  rw [show nI 0 = 0 from rfl] at p1
  rw [p1, z_ob2, q1, z_ob2]
  exact ⟨a', rfl, q2⟩
/-- the model's totals -/
theorem m_lay_64 {N b : Nat} {balloons : Nat → Int32} (hb : b ≤ 10) (h0 : balloons 0 = nI b) : ∀ (n i : Nat) (a : Nat → Int64), i ≤ 512 → 512 - i < n → (∀ t, t < i → a (512 * b + t) = lN 0) → ∃ a', f_X9_laysTotals_64 N balloons n (nI i) a = some (nI 512, a') ∧ ∀ t, t < 512 → a' (512 * b + t) = lN 0 := by
  intro n
  induction n with
  | zero => intro i a h1 h2; omega
  | succ n ih =>
    intro i a h1 h2 ha
    rw [f_X9_laysTotals_64.eq_2, z_gI0 (by omega) (by omega), z_c0, h0]
    have e9 : (512 ≤ nI i) = (512 ≤ i) := z_le (a := 512) (by omega) (by omega)
    by_cases h : i < 512
    · have e1 : (512 : Int32) * nI b + nI i = nI (512 * b + i) := by rw [show (512 : Int32) = nI 512 from rfl, z_mul, z_add]
      rw [if_neg (by rw [e9]; omega), e1, z_gIx (by omega) (by omega), z_cl (by omega), nI_1]
      refine ih (i + 1) _ (by omega) (by omega) (fun t ht => ?_)
      by_cases e : t = i
      · subst e; rw [pk_uLs]; rfl
      · rw [pk_uLn (by omega)]; exact ha t (by omega)
    · have : i = 512 := by omega
      subst this
      exact ⟨a, if_pos (by decide), ha⟩
theorem xx {s : Nat} : 511 ^^^ (511 ^^^ s) = s := by rw [← Nat.xor_assoc, Nat.xor_self, Nat.zero_xor]
theorem m_lay_110 {N b r rs : Nat} {worth : Nat → Int64} (hN : 3000 < N) (hG : WF G) (hb : b + 1 + r = G 0 3) (hg : ∀ d, d < 9 → worth (9 * b + d) = lN (gNn G wd b d)) (h5 : (mNow (5 + b) = 0) ↔ rs.testBit b = true) : ∀ (n i : Nat) (a a0 : Nat → Int64), i ≤ 512 → 512 - i < n → (∀ s, s < 512 → a (512 * (b + 1) + s) = lN (pV G wd rs r (511 ^^^ s))) → (∀ s, s < i → a (512 * b + s) = lN (pV G wd rs (r + 1) (511 ^^^ s))) → (∀ q, 512 * (b + 1) ≤ q → a q = a0 q) → ∃ a', f_X9_laysTotals_110 N mNow worth (nI b) n (nI i) a = some (nI 512, a') ∧ (∀ s, s < 512 → a' (512 * b + s) = lN (pV G wd rs (r + 1) (511 ^^^ s))) ∧ ∀ q, 512 * (b + 1) ≤ q → a' q = a0 q := by
  have g3 : G 0 3 ≤ 10 := hG.1.2.2.2.1
  intro n
  induction n with
  | zero => intro i a a0 h1 h2; omega
  | succ n ih =>
    intro i a a0 h1 h2 hr ha hq
    rw [f_X9_laysTotals_110.eq_2]
    have e9 : (512 ≤ nI i) = (512 ≤ i) := z_le (a := 512) (by omega) (by omega)
    by_cases h : i < 512
    · rw [if_neg (by rw [e9]; omega), nI_1]
      have hxi := xor_lt h
      have val : f_X9_greatest N a mNow worth (nI b) (nI i) = some (lN (pV G wd rs (r + 1) (511 ^^^ i))) := by
        unfold f_X9_greatest
        have e2 : (512 : Int32) * (nI b + 1) + nI i = nI (512 * (b + 1) + i) := by rw [nI_1, show (512 : Int32) = nI 512 from rfl, z_mul, z_add]
        rw [e2, z_gIx (by omega) (by omega), z_cl (by omega), hr i h]
        have eV : pV G wd rs (r + 1) (511 ^^^ i) = if rs.testBit b then pM (fun d => gNn G wd b d + pV G wd rs r ((511 ^^^ i) ||| 2 ^ d)) (511 ^^^ i) 9 (pV G wd rs r (511 ^^^ i)) else pV G wd rs r (511 ^^^ i) := by
          show (if rs.testBit (G 0 3 - (r + 1)) then pM (fun d => gNn G wd (G 0 3 - (r + 1)) d + pV G wd rs r ((511 ^^^ i) ||| 2 ^ d)) (511 ^^^ i) 9 (pV G wd rs r (511 ^^^ i)) else pV G wd rs r (511 ^^^ i)) = _
          rw [show G 0 3 - (r + 1) = b by omega]
        rw [eV]
        by_cases hb2 : rs.testBit b = true
        · rw [if_pos hb2]
          have := m_great_18 (N := N) (b := b) (t := 511 ^^^ i) (m := pV G wd rs r (511 ^^^ i)) (K := r * gM + gM) (worth := worth) (total := a) (now := mNow) (g := gNn G wd b) (w := pV G wd rs r) (by omega) hxi (gM_lt (by omega)) (Nat.le_trans (pV_le (wd := wd) hG (rs := rs) (r := r) (511 ^^^ i) (by omega)) (Nat.le_add_right _ _)) (fun d hd _ => by
            have h1 := pV_le (wd := wd) hG (rs := rs) (r := r) ((511 ^^^ i) ||| 2 ^ d) (by omega)
            have h2 := gN_le (wd := wd) hG (b := b) (d := d) (by omega) (by omega)
            rw [Nat.add_comm]
            exact Nat.add_le_add h1 h2) hg (fun d hd => by rw [hr _ (xor_lt (or_lt hxi hd)), xx]) (h5.mpr hb2) N 0 (by omega) (by omega)
          rw [xx] at this
          exact ob2_of this
        · rw [if_neg hb2]
          obtain ⟨n', rfl⟩ : ∃ n', N = n' + 1 := ⟨N - 1, by omega⟩
          have a5 : (5 : Int32) + nI b = nI (5 + b) := by rw [show (5 : Int32) = nI 5 from rfl, z_add]
          rw [f_X9_greatest_18.eq_2, if_neg (by decide), a5, z_gIx (by omega) (by omega), z_cl (by omega), if_neg (fun t => hb2 (h5.mp t)), z_ob2]
      have e1 : (512 : Int32) * nI b + nI i = nI (512 * b + i) := by rw [show (512 : Int32) = nI 512 from rfl, z_mul, z_add]
      rw [val, z_ob1, e1, z_gIx (by omega) (by omega), z_cl (by omega)]
      refine ih (i + 1) _ a0 (by omega) (by omega) (fun t ht => ?_) (fun t ht => ?_) (fun q hq1 => ?_)
      · rw [pk_uLn (by omega)]; exact hr t ht
      · by_cases e : t = i
        · subst e; rw [pk_uLs]
        · rw [pk_uLn (by omega)]; exact ha t (by omega)
      · rw [pk_uLn (by omega)]; exact hq q hq1
    · have : i = 512 := by omega
      subst this
      exact ⟨a, if_pos (by decide), ha, hq⟩
theorem m_lay_104 {N rs : Nat} {worth : Nat → Int64} (hN : 3000 < N) (hG : WF G) (hg : ∀ b d, b < G 0 3 → d < 9 → worth (9 * b + d) = lN (gNn G wd b d)) (h5 : ∀ b, b < G 0 3 → ((mNow (5 + b) = 0) ↔ rs.testBit b = true)) : ∀ (n k : Nat) (a : Nat → Int64), k ≤ G 0 3 → k < n → (∀ b s, k ≤ b → b ≤ G 0 3 → s < 512 → a (512 * b + s) = lN (pV G wd rs (G 0 3 - b) (511 ^^^ s))) → ∃ y a', f_X9_laysTotals_104 N mNow worth n (nI k - 1) a = some (y, a') ∧ (∀ b s, b ≤ G 0 3 → s < 512 → a' (512 * b + s) = lN (pV G wd rs (G 0 3 - b) (511 ^^^ s))) := by
  have g3 : G 0 3 ≤ 10 := hG.1.2.2.2.1
  intro n
  induction n with
  | zero => intro k a h1 h2; omega
  | succ n ih =>
    intro k a h1 h2 ha
    rw [f_X9_laysTotals_104.eq_2]
    cases k with
    | zero =>
      rw [if_pos (by decide)]
      exact ⟨_, a, rfl, fun b t h1 h2 => ha b t (by omega) h1 h2⟩
    | succ b =>
      rw [nI_pred, if_neg (nI_pos (by omega))]
      obtain ⟨a', p1, p2, p3⟩ := m_lay_110 (N := N) (b := b) (r := G 0 3 - (b + 1)) (rs := rs) (wd := wd) (mNow := mNow) hN hG (by omega) (fun d hd => hg b d (by omega) hd) (h5 b (by omega)) N 0 a a (by omega) (by omega) (fun t ht => ha (b + 1) t (by omega) (by omega) ht) (fun t ht => absurd ht (Nat.not_lt_zero t)) (fun _ _ => rfl)
      rw [show nI 0 = 0 from rfl] at p1
      rw [p1, z_ob2, show nI b + (-1) = nI b - 1 from (Int32.sub_eq_add_neg _ _).symm]
      refine ih b a' (by omega) (by omega) (fun b' t hb1 hb2 ht => ?_)
      by_cases e : b' = b
      · subst e
        rw [p2 t ht, show G 0 3 - (b' + 1) + 1 = G 0 3 - b' by omega]
      · rw [p3 _ (by omega)]; exact ha b' t (by omega) hb2 ht
