variable {G : Nat → Nat → Nat} {regions balloons letters loft start seed count turnCount : Int32} {risk distance comeback capacity pigeons weight priority turnFrom turnTo follow land aimCount aim : Nat → Int32} {mLoft mStart mSeed : Int32} {mRegions mRisk mDistance mBack mWinds mNamed mNR mNW mTurns mTF mTT mTW mBalloons mRoom mPigeons mLetters mWeight mPriority : Nat → Int32}
variable {P : Nat → Nat → Nat} {T : Nat} {day wind loftN lost lc jc : Int32} {ds : Int64} {jk jn jd bst br cg lt an ho du la mNow : Nat → Int32}
/-- one more than the greatest priority of an exact weight; 0: there is no such set -/
def Cb (wt : Nat → Bool) (w p : Nat → Nat) : Nat → Nat → Nat
  | 0 => fun v => if v = 0 then 1 else 0
  | i + 1 => fun v => if wt i = true ∧ w i ≤ v ∧ Cb wt w p i (v - w i) ≠ 0 ∧ Cb wt w p i v < Cb wt w p i (v - w i) + p i then Cb wt w p i (v - w i) + p i else Cb wt w p i v
theorem Cb_s (wt : Nat → Bool) (w p : Nat → Nat) (i v : Nat) : Cb wt w p (i + 1) v = if wt i = true ∧ w i ≤ v ∧ Cb wt w p i (v - w i) ≠ 0 ∧ Cb wt w p i v < Cb wt w p i (v - w i) + p i then Cb wt w p i (v - w i) + p i else Cb wt w p i v := rfl
theorem Cb_mono {wt : Nat → Bool} {w p : Nat → Nat} {i v : Nat} : Cb wt w p i v ≤ Cb wt w p (i + 1) v := by
  rw [Cb_s]; split <;> omega
theorem Cb_up {wt : Nat → Bool} {w p : Nat → Nat} : ∀ {i v s : Nat}, Adm wt i s → tot i w s = v → tot i p s + 1 ≤ Cb wt w p i v
  | 0, v, s, h, hv => by
    have : v = 0 := hv.symm
    subst this
    exact Nat.le_refl _
  | i + 1, v, s, h, hv => by
    rcases Adm_cases h with ha | ⟨hw, s0, ha, rfl⟩
    · rw [tot_lo ha.1] at hv ⊢
      exact Nat.le_trans (Cb_up ha hv) Cb_mono
    · rw [tot_hi ha.1] at hv ⊢
      have ih := Cb_up (p := p) ha (show tot i w s0 = v - w i by omega)
      rw [Cb_s]
      by_cases hc : Cb wt w p i v < Cb wt w p i (v - w i) + p i
      · rw [if_pos ⟨hw, by omega, by omega, hc⟩]; omega
      · rw [if_neg (fun q => hc q.2.2.2)]; omega
theorem Cb_ex {wt : Nat → Bool} {w p : Nat → Nat} : ∀ {i v : Nat}, Cb wt w p i v ≠ 0 → ∃ s, Adm wt i s ∧ tot i w s = v ∧ tot i p s + 1 = Cb wt w p i v
  | 0, v, h => by
    by_cases e : v = 0
    · subst e; exact ⟨0, ⟨by decide, fun k hk => by omega⟩, rfl, rfl⟩
    · exact absurd (if_neg e) h
  | i + 1, v, h => by
    rw [Cb_s] at h ⊢
    by_cases hc : wt i = true ∧ w i ≤ v ∧ Cb wt w p i (v - w i) ≠ 0 ∧ Cb wt w p i v < Cb wt w p i (v - w i) + p i
    · rw [if_pos hc]
      obtain ⟨s0, h1, h2, h3⟩ := Cb_ex hc.2.2.1
      exact ⟨2 ^ i + s0, Adm_hi hc.1 h1, by rw [tot_hi h1.1]; omega, by rw [tot_hi h1.1]; omega⟩
    · rw [if_neg hc] at h ⊢
      obtain ⟨s, h1, h2, h3⟩ := Cb_ex h
      exact ⟨s, Adm_lo h1, by rw [tot_lo h1.1]; exact h2, by rw [tot_lo h1.1]; exact h3⟩
theorem Cb_le {wt : Nat → Bool} {w p : Nat → Nat} (hp : ∀ k, p k ≤ 9) : ∀ (i v : Nat), Cb wt w p i v ≤ i * 9 + 1
  | 0, v => by show (if v = 0 then 1 else 0) ≤ _; split <;> omega
  | i + 1, v => by
    have h1 := Cb_le (wt := wt) (w := w) hp i v
    have h2 := Cb_le (wt := wt) (w := w) hp i (v - w i)
    have h3 := hp i
    rw [Cb_s]; split <;> omega
/-- numbers from -1 on -/
theorem q_toInt {a : Nat} (h : a < 2 ^ 30) : (nI a - 1).toInt = (a : Int) - 1 := pk_sub_toInt (b := 1) h (by omega)
theorem q_le {a b : Nat} (ha : a < 2 ^ 30) (hb : b < 2 ^ 30) : (nI a - 1 ≤ nI b - 1) = (a ≤ b) := by
  apply propext; rw [Int32.le_iff_toInt_le, q_toInt ha, q_toInt hb]; omega
theorem q_lt0 {a : Nat} (ha : a < 2 ^ 30) : (nI a - 1 < 0) = (a = 0) := by
  apply propext; rw [Int32.lt_iff_toInt_lt, q_toInt ha, show (0 : Int32).toInt = 0 from by decide]; omega
theorem q_eq {a b : Nat} (ha : a < 2 ^ 30) (hb : b < 2 ^ 30) : (nI a - 1 = nI b - 1) = (a = b) := by
  apply propext; rw [← Int32.toInt_inj, q_toInt ha, q_toInt hb]; omega
theorem q_add (a b : Nat) : nI a - 1 + nI b = nI (a + b) - 1 := by
  rw [← z_add, Int32.sub_eq_add_neg, Int32.sub_eq_add_neg, Int32.add_assoc, Int32.add_assoc, Int32.add_comm (-1)]
theorem m_load_38 {N : Nat} : ∀ (n i : Nat) (a : Nat → Int32), i ≤ 1000 → 1000 - i < n → (∀ v, v < i → a v = nI (if v = 0 then 1 else 0) - 1) → ∃ a', f_X9_bestLoad_38 N n (nI i) a = some (nI 1000, a') ∧ ∀ v, v < 1000 → a' v = nI (if v = 0 then 1 else 0) - 1 := by
  intro n
  induction n with
  | zero => intro i a h1 h2; omega
  | succ n ih =>
    intro i a h1 h2 ha
    rw [f_X9_bestLoad_38.eq_2]
    have e9 : (999 < nI i) = (999 < i) := z_lt (a := 999) (by omega) (by omega)
    have e0 : (nI i = 0) = (i = 0) := z_eq (b := 0) (by omega) (by omega)
    by_cases h : i < 1000
    · rw [if_neg (by rw [e9]; omega), z_gIx (by omega) (by omega), z_gIx (by omega) (by omega), z_cl (by omega), nI_1]
      simp only [e0]
      have hup : ∀ x, x = nI (if i = 0 then 1 else 0) - 1 → ∀ v, v < i + 1 → upd a i x v = nI (if v = 0 then 1 else 0) - 1 := by
        intro x hx v hv
        by_cases e : v = i
        · subst e; rw [pk_us]; exact hx
        · rw [pk_un e]; exact ha v (by omega)
      by_cases e : i = 0
      · rw [if_pos e]
        refine ih (i + 1) _ (by omega) (by omega) (hup _ ?_)
        rw [if_pos e]; decide
      · rw [if_neg e]
        refine ih (i + 1) _ (by omega) (by omega) (hup _ ?_)
        rw [if_neg e]; decide
    · have : i = 1000 := by omega
      subst this
      exact ⟨a, if_pos (by decide), ha⟩
theorem m_load_76 {N k n : Nat} {now weight priority : Nat → Int32} {w p : Nat → Nat} {wt : Nat → Bool} (hk : k < n) (hn : n ≤ 24) (hp9 : ∀ k, p k ≤ 9) (hw : weight k = nI (w k) ∧ w k ≤ 99) (hp : priority k = nI (p k)) (hwt : (now (35 + k) = 0) = (wt k = true)) : ∀ (m i : Nat) (a a0 : Nat → Int32), i ≤ 1000 → 1000 - i < m → (∀ v, v < 1000 → a (1000 * k + v) = nI (Cb wt w p k v) - 1) → (∀ v, v < i → a (1000 * (k + 1) + v) = nI (Cb wt w p (k + 1) v) - 1) → (∀ q, q < 1000 * (k + 1) → a q = a0 q) → ∃ a', f_X9_bestLoad_76 N now weight priority (nI k) m (nI i) a = some (nI 1000, a') ∧ (∀ v, v < 1000 → a' (1000 * (k + 1) + v) = nI (Cb wt w p (k + 1) v) - 1) ∧ ∀ q, q < 1000 * (k + 1) → a' q = a0 q := by
  obtain ⟨w1, w2⟩ := hw
  intro m
  induction m with
  | zero => intro i a a0 h1 h2; omega
  | succ m ih =>
    intro i a a0 h1 h2 hr ha hq
    rw [f_X9_bestLoad_76.eq_2]
    have e9 : (999 < nI i) = (999 < i) := z_lt (a := 999) (by omega) (by omega)
    by_cases h : i < 1000
    · have e1 : (1000 : Int32) * nI k + nI i = nI (1000 * k + i) := by rw [show (1000 : Int32) = nI 1000 from rfl, z_mul, z_add]
      have e2 : (1000 : Int32) * nI (k + 1) + nI i = nI (1000 * (k + 1) + i) := by rw [show (1000 : Int32) = nI 1000 from rfl, z_mul, z_add]
      have a35 : (35 : Int32) + nI k = nI (35 + k) := by rw [show (35 : Int32) = nI 35 from rfl, z_add]
      have cl1 := Cb_le (wt := wt) (w := w) hp9 k i
      have cl2 := Cb_le (wt := wt) (w := w) hp9 k (i - w k)
      have pk9 := hp9 k
      have m1 : ((-1 : Int32) < 0) = True := eq_true (by decide)
      have step : ∀ x, x = nI (Cb wt w p (k + 1) i) - 1 → ∃ a', f_X9_bestLoad_76 N now weight priority (nI k) m (nI (i + 1)) (upd a (1000 * (k + 1) + i) x) = some (nI 1000, a') ∧ (∀ v, v < 1000 → a' (1000 * (k + 1) + v) = nI (Cb wt w p (k + 1) v) - 1) ∧ ∀ q, q < 1000 * (k + 1) → a' q = a0 q := by
        intro x hx
        refine ih (i + 1) _ a0 (by omega) (by omega) (fun v hv => ?_) (fun v hv => ?_) (fun q hq1 => ?_)
        · rw [pk_un (by omega)]; exact hr v hv
        · by_cases e : v = i
          · subst e; rw [pk_us]; exact hx
          · rw [pk_un (by omega)]; exact ha v (by omega)
        · rw [pk_un (by omega)]; exact hq q hq1
      have ew : (nI i < nI (w k)) = (i < w k) := z_lt (by omega) (by omega)
      have hri := hr i h
      by_cases hwk : wt k = true
      · have h35 : (now (35 + k) = 0) = True := eq_true (by rw [hwt]; exact hwk)
        by_cases hlt : i < w k
        · simp (disch := omega) only [e9, e1, e2, a35, z_gIx, z_cl, h35, w1, ew, hlt, m1, nI_1, if_true, if_neg, hri]
          refine step _ ?_
          rw [Cb_s, if_neg (fun q => by omega)]
        · have e3 : nI (1000 * k + i) - nI (w k) = nI (1000 * k + (i - w k)) := by rw [z_sub (by omega)]; exact congrArg nI (by omega)
          have hrw := hr (i - w k) (by omega)
          simp (disch := omega) only [e9, e1, e2, e3, a35, z_gIx, z_cl, h35, w1, ew, hlt, m1, nI_1, if_true, if_false, if_neg, hri, hrw, q_lt0, hp, q_add, q_le]
          by_cases hz : Cb wt w p k (i - w k) = 0
          · rw [if_pos hz]
            refine step _ ?_
            rw [Cb_s, if_neg (fun q => q.2.2.1 hz)]
          · rw [if_neg hz]
            by_cases hle : Cb wt w p k (i - w k) + p k ≤ Cb wt w p k i
            · rw [if_pos hle]
              refine step _ ?_
              rw [Cb_s, if_neg (fun q => by omega)]
            · rw [if_neg hle]
              refine step _ ?_
              rw [Cb_s, if_pos ⟨hwk, by omega, hz, by omega⟩]
      · have h35 : (now (35 + k) = 0) = False := eq_false (by rw [hwt]; exact hwk)
        simp (disch := omega) only [e9, e1, e2, a35, z_gIx, z_cl, h35, m1, nI_1, if_true, if_false, if_neg, hri]
        refine step _ ?_
        rw [Cb_s, if_neg (fun q => hwk q.1)]
    · have : i = 1000 := by omega
      subst this
      exact ⟨a, if_pos (by decide), ha, hq⟩
theorem m_load_68 {N n : Nat} {now weight priority : Nat → Int32} {w p : Nat → Nat} {wt : Nat → Bool} (hN : 3000 < N) (hn : n ≤ 24) (hp9 : ∀ k, p k ≤ 9) (hw : ∀ k, k < n → weight k = nI (w k) ∧ w k ≤ 99) (hp : ∀ k, k < n → priority k = nI (p k)) (hwt : ∀ k, k < n → (now (35 + k) = 0) = (wt k = true)) : ∀ (m i : Nat) (a : Nat → Int32), i ≤ n → n - i < m → (∀ k v, k ≤ i → v < 1000 → a (1000 * k + v) = nI (Cb wt w p k v) - 1) → ∃ a', f_X9_bestLoad_68 N now weight priority (nI n) m (nI i) a = some (nI n, a') ∧ ∀ k v, k ≤ n → v < 1000 → a' (1000 * k + v) = nI (Cb wt w p k v) - 1 := by
  intro m
  induction m with
  | zero => intro i a h1 h2; omega
  | succ m ih =>
    intro i a h1 h2 ha
    rw [f_X9_bestLoad_68.eq_2]
    by_cases h : i < n
    · obtain ⟨a1, p1, p2, p3⟩ := m_load_76 (N := N) (k := i) (n := n) (w := w) (p := p) (wt := wt) h hn hp9 (hw i h) (hp i h) (hwt i h) N 0 a a (by omega) (by omega) (fun v hv => ha i v (by omega) hv) (fun v hv => absurd hv (Nat.not_lt_zero v)) (fun _ _ => rfl)
      rw [show nI 0 = 0 from rfl] at p1
      rw [if_neg (by rw [z_le (by omega) (by omega)]; omega), p1, z_ob2, nI_1]
      refine ih (i + 1) a1 (by omega) (by omega) (fun k v hk hv => ?_)
      by_cases e : k = i + 1
      · subst e; exact p2 v hv
      · rw [p3 _ (by omega)]; exact ha k v (by omega) hv
    · have : i = n := by omega
      subst this
      exact ⟨a, by rw [if_pos (by rw [z_le (by omega) (by omega)]; omega)], ha⟩
theorem m_load_213 {N n b cap : Nat} {room a : Nat → Int32} {c : Nat → Nat} (hb : b < 20) (hn : n ≤ 24) (hcap : cap ≤ 999) (hr : room b = nI cap) (ha : ∀ v, v < 1000 → a (1000 * n + v) = nI (c v) - 1) (hc : ∀ v, c v < 2 ^ 30) : ∀ (m v u : Nat), v ≤ cap + 1 → cap + 1 - v < m → u ≤ cap → (∀ x, x < v → c x ≤ c u) → (∀ x, x < u → c x < c u) → ∃ u', u' ≤ cap ∧ f_X9_bestLoad_213 N room (nI b) a (nI n) m (nI v) (nI u) = some (nI (cap + 1), nI u') ∧ (∀ x, x ≤ cap → c x ≤ c u') ∧ (∀ x, x < u' → c x < c u') := by
  intro m
  induction m with
  | zero => intro v u h1 h2; omega
  | succ m ih =>
    intro v u h1 h2 hu h3 h4
    rw [f_X9_bestLoad_213.eq_2, z_gIx (by omega) (by omega), z_cl (n := b) (by omega), hr]
    by_cases h : v ≤ cap
    · have e1 : ∀ x, (1000 : Int32) * nI n + nI x = nI (1000 * n + x) := fun x => by rw [show (1000 : Int32) = nI 1000 from rfl, z_mul, z_add]
      rw [if_neg (by rw [z_lt (by omega) (by omega)]; omega), e1, e1, z_gIx (by omega) (by omega), z_gIx (by omega) (by omega), z_cl (by omega), z_cl (by omega), ha v (by omega), ha u (by omega), nI_1]
      have eq := q_le (hc v) (hc u)
      simp only [eq]
      by_cases hle : c v ≤ c u
      · rw [if_pos hle]
        refine ih (v + 1) u (by omega) (by omega) hu (fun x hx => ?_) h4
        by_cases e : x = v
        · subst e; exact hle
        · exact h3 x (by omega)
      · rw [if_neg hle]
        refine ih (v + 1) v (by omega) (by omega) (by omega) (fun x hx => ?_) (fun x hx => ?_)
        · by_cases e : x = v
          · subst e; exact Nat.le_refl _
          · have := h3 x (by omega); omega
        · have := h3 x hx; omega
    · have : v = cap + 1 := by omega
      subst this
      rw [if_pos (by rw [z_lt (by omega) (by omega)]; omega)]
      exact ⟨u, hu, rfl, fun x hx => h3 x (by omega), h4⟩
theorem m_lowest_24 {N n : Nat} {a weight priority : Nat → Int32} {w p : Nat → Nat} {wt : Nat → Bool} (hn : n ≤ 24) (hp9 : ∀ k, p k ≤ 9) (hw : ∀ k, k < n → weight k = nI (w k) ∧ w k ≤ 99) (hp : ∀ k, k < n → priority k = nI (p k)) (ha : ∀ k v, k ≤ n → v < 1000 → a (1000 * k + v) = nI (Cb wt w p k v) - 1) : ∀ (k m left q acc : Nat), k ≤ n → k < m → left < 1000 → Cb wt w p k left = q + 1 → ∃ y6 y5 y4 r, f_X9_lowest_24 N a weight priority m (nI k - 1) (nI q) (nI left) (nI acc) = some (y6, y5, y4, nI (acc ||| r)) ∧ Adm wt k r ∧ tot k w r = left ∧ tot k p r = q ∧ ∀ s', Adm wt k s' → tot k w s' = left → tot k p s' = q → r ≤ s' := by
  intro k
  induction k with
  | zero =>
    intro m left q acc h1 h2 h3 h4
    obtain ⟨m', rfl⟩ : ∃ m', m = m' + 1 := ⟨m - 1, by omega⟩
    have h4 : (if left = 0 then 1 else 0) = q + 1 := h4
    have hl : left = 0 := by
      by_cases e : left = 0
      · exact e
      · rw [if_neg e] at h4; omega
    subst hl
    have hq : q = 0 := by rw [if_pos rfl] at h4; omega
    subst hq
    rw [f_X9_lowest_24.eq_2, if_pos (by decide)]
    exact ⟨_, _, _, 0, by rw [Nat.or_zero], ⟨by decide, fun k hk => by omega⟩, rfl, rfl, fun _ _ _ _ => Nat.zero_le _⟩
  | succ k ih =>
    intro m left q acc h1 h2 h3 h4
    obtain ⟨m', rfl⟩ : ∃ m', m = m' + 1 := ⟨m - 1, by omega⟩
    have e1 : (1000 : Int32) * nI k + nI left = nI (1000 * k + left) := by rw [show (1000 : Int32) = nI 1000 from rfl, z_mul, z_add]
    have cl := Cb_le (wt := wt) (w := w) hp9 k left
    have cl2 := Cb_le (wt := wt) (w := w) hp9 (k + 1) left
    obtain ⟨w1, w2⟩ := hw k (by omega)
    have pk9 := hp9 k
    rw [f_X9_lowest_24.eq_2, nI_pred, if_neg (nI_pos (by omega)), e1, z_gIx (by omega) (by omega), z_cl (n := 1000 * k + left) (by omega), ha k left (by omega) h3, show nI k + (-1) = nI k - 1 from (Int32.sub_eq_add_neg _ _).symm]
    have eq : (nI (Cb wt w p k left) - 1 = nI q) = (Cb wt w p k left = q + 1) := by
      rw [← nI_pred q, q_eq (by omega) (by omega)]
    simp only [eq]
    by_cases hc : Cb wt w p k left = q + 1
    · rw [if_pos hc]
      obtain ⟨y6, y5, y4, r, r1, r2, r3, r4, r5⟩ := ih m' left q acc (by omega) (by omega) h3 hc
      refine ⟨y6, y5, y4, r, r1, Adm_lo r2, by rw [tot_lo r2.1]; exact r3, by rw [tot_lo r2.1]; exact r4, fun s' h5 h6 h7 => ?_⟩
      rcases Adm_cases h5 with hA | ⟨_, s0, hA, rfl⟩
      · rw [tot_lo hA.1] at h6 h7; exact r5 s' hA h6 h7
      · have := r2.1; omega
    · rw [if_neg hc]
      have hcond : wt k = true ∧ w k ≤ left ∧ Cb wt w p k (left - w k) ≠ 0 ∧ Cb wt w p k left < Cb wt w p k (left - w k) + p k := by
        by_cases hh : wt k = true ∧ w k ≤ left ∧ Cb wt w p k (left - w k) ≠ 0 ∧ Cb wt w p k left < Cb wt w p k (left - w k) + p k
        · exact hh
        · rw [Cb_s, if_neg hh] at h4; exact absurd h4 hc
      have hval := h4
      rw [Cb_s, if_pos hcond] at hval
      obtain ⟨c1, c2, c3, c4⟩ := hcond
      rw [z_gIx (by omega) (by omega), z_gIx (by omega) (by omega), z_cl (n := k) (by omega), w1, hp k (by omega), z_sub (by omega), z_sub (by omega), z_shl1 (by omega), z_or]
      obtain ⟨y6, y5, y4, r, r1, r2, r3, r4, r5⟩ := ih m' (left - w k) (q - p k) (acc ||| 2 ^ k) (by omega) (by omega) (by omega) (by omega)
      have eor : 2 ^ k ||| r = 2 ^ k + r := by
        have := Nat.two_pow_add_eq_or_of_lt r2.1 1
        rw [Nat.mul_one] at this; exact this.symm
      refine ⟨y6, y5, y4, 2 ^ k + r, by rw [r1, Nat.or_assoc, eor], Adm_hi c1 r2, by rw [tot_hi r2.1]; omega, by rw [tot_hi r2.1]; omega, fun s' h5 h6 h7 => ?_⟩
      rcases Adm_cases h5 with hA | ⟨_, s0, hA, rfl⟩
      · rw [tot_lo hA.1] at h6 h7
        have h8 := Cb_up (p := p) hA h6
        have h9 := Cb_mono (wt := wt) (w := w) (p := p) (i := k) (v := left)
        omega
      · rw [tot_hi hA.1] at h6 h7
        have := r5 s0 hA (by omega) (by omega)
        omega
