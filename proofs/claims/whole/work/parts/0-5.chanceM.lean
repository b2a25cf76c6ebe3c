/-- the sum of the weights of the turns from a wind -/
def tS (nT : Nat) (tf tw : Nat → Nat) (w : Nat) : Nat := sm nT (fun k => if tf k = w then tw k else 0)
def tP (nT : Nat) (tf tt tw : Nat → Nat) (w v : Nat) : Nat := sm nT (fun k => if tf k = w ∧ tt k = v then tw k else 0)
/-- the table of the winds that follow -/
def tF (nT : Nat) (tf tt tw : Nat → Nat) (w v : Nat) : Nat := (if w = v then 10 - tS nT tf tw w else 0) + tP nT tf tt tw w v
theorem m_turnsOf_4 {N nT w : Nat} {turns turnFrom turnWeight : Nat → Int32} {tf tw : Nat → Nat} (hT : nT ≤ 30) (hw : w < 2 ^ 31) (h0 : turns 0 = nI nT) (hf : ∀ k, k < nT → turnFrom k = nI (tf k) ∧ tf k < 2 ^ 31) (hg : ∀ k, k < nT → turnWeight k = nI (tw k)) : ∀ (n i a : Nat), i ≤ nT → nT - i < n → a = sm i (fun k => if tf k = w then tw k else 0) → f_X9_turnsOf_4 N turns turnFrom turnWeight (nI w) n (nI i) (nI a) = some (nI nT, nI (tS nT tf tw w)) := by
  intro n
  induction n with
  | zero => intro i a h1 h2; omega
  | succ n ih =>
    intro i a h1 h2 ha
    rw [f_X9_turnsOf_4.eq_2]
    have e0 : (0 : Int32).toNatClampNeg = 0 := rfl
    have e1 : gIx (γ := Int32 × Int32) 0 2 = id := by funext k; exact z_gIx (i := 0) (by omega) (by omega)
    by_cases h : i < nT
    · obtain ⟨h3, h4⟩ := hf i h
      have h5 := hg i h
      have := ih (i + 1) (a + (if tf i = w then tw i else 0)) (by omega) (by omega) (by rw [ha, sm_s])
      by_cases e : tf i = w
      · rw [if_pos e] at this
        simp (disch := omega) only [z_lit, e0, e1, id, h0, z_le, z_gIx, z_cl, z_add, z_eq, if_pos, if_neg, h3, h5, this]
      · rw [if_neg e] at this
        simp (disch := omega) only [z_lit, e0, e1, id, h0, z_le, z_gIx, z_cl, z_add, z_eq, if_pos, if_neg, h3, h5, this]
    · have : i = nT := by omega
      subst this
      subst ha
      simp (disch := omega) only [z_lit, e0, e1, id, h0, z_le, z_gIx, z_cl, if_pos]
      rfl
theorem m_turnsOf {N nT w : Nat} {turns turnFrom turnWeight : Nat → Int32} {tf tw : Nat → Nat} (hN : 100 < N) (hT : nT ≤ 30) (hw : w < 2 ^ 31) (h0 : turns 0 = nI nT) (hf : ∀ k, k < nT → turnFrom k = nI (tf k) ∧ tf k < 2 ^ 31) (hg : ∀ k, k < nT → turnWeight k = nI (tw k)) : f_X9_turnsOf N turns turnFrom turnWeight (nI w) = some (nI (tS nT tf tw w)) := by
  have := m_turnsOf_4 (N := N) hT hw h0 hf hg N 0 0 (by omega) (by omega) rfl
  rw [show nI 0 = 0 from rfl] at this
  unfold f_X9_turnsOf; rw [this, z_ob2]
theorem m_goes_2 {N w sh : Nat} {now : Nat → Int32} (hw : w < 2 ^ 31) (h0 : now 1 = nI w) : ∀ (n i : Nat) (a : Nat → Int64), i ≤ 6 → 6 - i < n → (∀ k, k < i → a k = lN (if k = sh then 0 else if k = w then 1 else 0)) → ∃ a', f_X9_goesOn_2 N now (shI sh) n (nI i) a = some (nI 6, a') ∧ ∀ k, k < 6 → a' k = lN (if k = sh then 0 else if k = w then 1 else 0) := by
  intro n
  induction n with
  | zero => intro i a h1 h2; omega
  | succ n ih =>
    intro i a h1 h2 ha
    rw [f_X9_goesOn_2.eq_2]
    have e0 : (1 : Int32).toNatClampNeg = 1 := rfl
    have e1 : gIx (γ := Int32 × (Nat → Int64)) 1 213 = id := by funext k; exact z_gIx (i := 1) (by omega) (by omega)
    by_cases h : i < 6
    · obtain ⟨a', h3, h4⟩ := ih (i + 1) (vp_updL a i (lN (if i = sh then 0 else if i = w then 1 else 0))) (by omega) (by omega) (by
        intro k hk
        by_cases e : k = i
        · subst e; rw [pk_uLs]
        · rw [pk_uLn e]; exact ha k (by omega))
      refine ⟨a', ?_, h4⟩
      rw [← h3]
      have hs : (nI i = shI sh) = (i = sh) := by
        unfold shI
        by_cases e : sh < 6
        · rw [if_pos e, z_eq (by omega) (by omega)]
        · rw [if_neg e, z_m2 (by omega)]; exact (eq_false (by omega)).symm
      by_cases e : i = w <;> by_cases e2 : i = sh <;>
        simp (disch := omega) only [e0, e1, id, h0, hs, z_lit, z_le, z_eq, z_gIx, z_cl, z_add, if_pos, if_neg] <;> rfl
    · have : i = 6 := by omega
      subst this
      exact ⟨a, by simp (disch := omega) only [z_lit, z_le, if_pos], ha⟩
theorem m_goes_50 {N nT : Nat} {turns turnFrom turnWeight : Nat → Int32} {tf tw ch : Nat → Nat} {cc : Nat → Int64} (hN : 100 < N) (hT : nT ≤ 30) (h0 : turns 0 = nI nT) (hf : ∀ k, k < nT → turnFrom k = nI (tf k) ∧ tf k < 2 ^ 31) (hg : ∀ k, k < nT → turnWeight k = nI (tw k)) (hs : ∀ w, w < 6 → tS nT tf tw w ≤ 10) (hc : ∀ k, k < 6 → cc k = lN (ch k)) : ∀ (n i : Nat) (a : Nat → Int64), i ≤ 6 → 6 - i < n → (∀ k, k < i → a k = lN (ch k * (10 - tS nT tf tw k))) → ∃ a', f_X9_goesOn_50 N turns turnFrom turnWeight cc n (nI i) a = some (nI 6, a') ∧ ∀ k, k < 6 → a' k = lN (ch k * (10 - tS nT tf tw k)) := by
  intro n
  induction n with
  | zero => intro i a h1 h2; omega
  | succ n ih =>
    intro i a h1 h2 ha
    rw [f_X9_goesOn_50.eq_2]
    by_cases h : i < 6
    · obtain ⟨a', h3, h4⟩ := ih (i + 1) (vp_updL a i (lN (ch i * (10 - tS nT tf tw i)))) (by omega) (by omega) (by
        intro k hk
        by_cases e : k = i
        · subst e; rw [pk_uLs]
        · rw [pk_uLn e]; exact ha k (by omega))
      refine ⟨a', ?_, h4⟩
      rw [← h3]
      have h5 := m_turnsOf (N := N) (w := i) hN hT (by omega) h0 hf hg
      have h6 := hs i h
      simp (disch := omega) only [h5, z_ob1, hc, z_lit, z_le, z_gIx, z_cl, z_sub, z_l, lN_mul, z_add, if_neg]
    · have : i = 6 := by omega
      subst this
      exact ⟨a, by simp (disch := omega) only [z_lit, z_le, if_pos], ha⟩
theorem m_goes_91 {N nT nW : Nat} {turns turnFrom turnWeight turnTo : Nat → Int32} {tf tt tw ch b : Nat → Nat} {cc : Nat → Int64} (hT : nT ≤ 30) (hW : nW ≤ 6) (h0 : turns 0 = nI nT) (hf : ∀ k, k < nT → turnFrom k = nI (tf k) ∧ tf k < nW) (ht : ∀ k, k < nT → turnTo k = nI (tt k) ∧ tt k < nW) (hg : ∀ k, k < nT → turnWeight k = nI (tw k) ∧ tw k < 2 ^ 31) (hc : ∀ k, k < 6 → cc k = lN (ch k)) : ∀ (n i : Nat) (a : Nat → Int64), i ≤ nT → nT - i < n → (∀ v, v < 6 → a v = lN (b v + sm i (fun k => if tt k = v then ch (tf k) * tw k else 0))) → ∃ a', f_X9_goesOn_91 N turns turnFrom turnWeight turnTo cc n (nI i) a = some (nI nT, a') ∧ ∀ v, v < 6 → a' v = lN (b v + sm nT (fun k => if tt k = v then ch (tf k) * tw k else 0)) := by
  intro n
  induction n with
  | zero => intro i a h1 h2; omega
  | succ n ih =>
    intro i a h1 h2 ha
    rw [f_X9_goesOn_91.eq_2]
    have e0 : (0 : Int32).toNatClampNeg = 0 := rfl
    have e1 : gIx (γ := Int32 × (Nat → Int64)) 0 2 = id := by funext k; exact z_gIx (i := 0) (by omega) (by omega)
    by_cases h : i < nT
    · obtain ⟨f1, f2⟩ := hf i h
      obtain ⟨t1, t2⟩ := ht i h
      obtain ⟨g1, g2⟩ := hg i h
      obtain ⟨a', h3, h4⟩ := ih (i + 1) (vp_updL a (tt i) (lN (b (tt i) + sm i (fun k => if tt k = tt i then ch (tf k) * tw k else 0) + ch (tf i) * tw i))) (by omega) (by omega) (by
        intro v hv
        by_cases e : v = tt i
        · subst e; rw [pk_uLs, sm_s, if_pos rfl, Nat.add_assoc]
        · rw [pk_uLn e, sm_s, if_neg (fun q => e q.symm), Nat.add_zero]; exact ha v hv)
      refine ⟨a', ?_, h4⟩
      rw [← h3]
      have h5 := ha (tt i) (by omega)
      have h6 := hc (tf i) (by omega)
      simp (disch := omega) only [e0, e1, id, h0, h5, h6, f1, t1, g1, z_lit, z_le, z_gIx, z_cl, z_l, lN_mul, lN_add, z_add, if_neg]
    · have : i = nT := by omega
      subst this
      exact ⟨a, by simp (disch := omega) only [h0, z_lit, z_le, z_gIx, z_cl, if_pos], ha⟩
theorem m_goes_147 {N sh : Nat} {ch : Nat → Nat} {cc : Nat → Int64} (hc : ∀ k, k < 6 → cc k = lN (ch k)) : ∀ (n i : Nat) (a : Nat → Int64), i ≤ 6 → 6 - i < n → (∀ k, k < i → a k = lN (if k = sh then 0 else ch k)) → ∃ a', f_X9_goesOn_147 N (shI sh) cc n (nI i) a = some (nI 6, a') ∧ ∀ k, k < 6 → a' k = lN (if k = sh then 0 else ch k) := by
  intro n
  induction n with
  | zero => intro i a h1 h2; omega
  | succ n ih =>
    intro i a h1 h2 ha
    rw [f_X9_goesOn_147.eq_2]
    by_cases h : i < 6
    · obtain ⟨a', h3, h4⟩ := ih (i + 1) (vp_updL a i (lN (if i = sh then 0 else ch i))) (by omega) (by omega) (by
        intro k hk
        by_cases e : k = i
        · subst e; rw [pk_uLs]
        · rw [pk_uLn e]; exact ha k (by omega))
      refine ⟨a', ?_, h4⟩
      rw [← h3]
      have hs : (nI i = shI sh) = (i = sh) := by
        unfold shI
        by_cases e : sh < 6
        · rw [if_pos e, z_eq (by omega) (by omega)]
        · rw [if_neg e, z_m2 (by omega)]; exact (eq_false (by omega)).symm
      by_cases e2 : i = sh <;>
        simp (disch := omega) only [hs, hc, z_lit, z_le, z_eq, z_gIx, z_cl, z_add, if_pos, if_neg] <;> rfl
    · have : i = 6 := by omega
      subst this
      exact ⟨a, by simp (disch := omega) only [z_lit, z_le, if_pos], ha⟩
/-- the two ways of one day are one -/
theorem chS_alt {nW nT : Nat} {tf tt tw ch : Nat → Nat} (hf : ∀ k, k < nT → tf k < nW) (ht : ∀ k, k < nT → tt k < nW) (hn : ∀ k, k < nT → tf k ≠ tt k) (hz : ∀ v, nW ≤ v → ch v = 0) (v : Nat) : ch v * (10 - tS nT tf tw v) + sm nT (fun k => if tt k = v then ch (tf k) * tw k else 0) = chS nW (tF nT tf tt tw) ch v := by
  unfold chS
  by_cases h : v < nW
  · rw [if_pos h]
    have e1 : sm nW (fun w => ch w * tF nT tf tt tw w v) = sm nW (fun w => if w = v then ch w * (10 - tS nT tf tw w) else 0) + sm nW (fun w => sm nT (fun k => if tf k = w ∧ tt k = v then ch w * tw k else 0)) := by
      rw [← sm_add]
      refine sm_congr (fun w _ => ?_)
      unfold tF tP
      rw [Nat.mul_add, ← sm_mul]
      congr 1
      · split <;> simp
      · refine sm_congr (fun k _ => ?_)
        split <;> simp
    rw [e1, sm_delta v (fun w => ch w * (10 - tS nT tf tw w)) nW, if_pos h, sm_comm]
    congr 1
    refine sm_congr (fun k hk => ?_)
    have hfk := hf k hk
    by_cases e : tt k = v
    · rw [if_pos e]
      have := sm_delta (tf k) (fun w => ch w * tw k) nW
      rw [if_pos hfk] at this
      rw [← this]
      refine sm_congr (fun w _ => ?_)
      by_cases e2 : w = tf k
      · subst e2; simp [e]
      · rw [if_neg e2, if_neg (fun q => e2 q.1.symm)]
    · rw [if_neg e]
      refine ((sm_congr (fun w _ => ?_)).trans (sm_zero nW)).symm
      rw [if_neg (fun q => e q.2)]
  · rw [if_neg h, hz v (by omega), Nat.zero_mul, Nat.zero_add]
    refine (sm_congr (fun k hk => ?_)).trans (sm_zero nT)
    have := ht k hk
    rw [if_neg (by omega)]
theorem chD_out {nW : Nat} {F : Nat → Nat → Nat} {w sh : Nat} (hw : w < nW) : ∀ (d v : Nat), nW ≤ v → chD nW F w sh d v = 0
  | 0, v, h => by unfold chD; split; rfl; rw [if_neg (by omega)]
  | d + 1, v, h => by unfold chD chS; split; rfl; rw [if_neg (by omega)]
theorem m_goes_42 {N nT nW w sh d : Nat} {turns turnFrom turnWeight turnTo : Nat → Int32} {tf tt tw : Nat → Nat} (hN : 100 < N) (hT : nT ≤ 30) (hW : nW ≤ 6) (hw : w < nW) (hd : d < 100) (h0 : turns 0 = nI nT) (hf : ∀ k, k < nT → turnFrom k = nI (tf k) ∧ tf k < nW) (ht : ∀ k, k < nT → turnTo k = nI (tt k) ∧ tt k < nW) (hg : ∀ k, k < nT → turnWeight k = nI (tw k) ∧ tw k < 2 ^ 31) (hn : ∀ k, k < nT → tf k ≠ tt k) (hs : ∀ w, w < 6 → tS nT tf tw w ≤ 10) : ∀ (n i : Nat) (a b : Nat → Int64), i ≤ d → d - i < n → (∀ k, k < 6 → a k = lN (chD nW (tF nT tf tt tw) w sh i k)) → ∃ a' b', f_X9_goesOn_42 N turns turnFrom turnWeight turnTo (nI d) (shI sh) n (nI i) a b = some (nI d, a', b') ∧ ∀ k, k < 6 → a' k = lN (chD nW (tF nT tf tt tw) w sh d k) := by
  intro n
  induction n with
  | zero => intro i a b h1 h2; omega
  | succ n ih =>
    intro i a b h1 h2 ha
    rw [f_X9_goesOn_42.eq_2]
    by_cases h : i < d
    · obtain ⟨b1, p1, q1⟩ := m_goes_50 (N := N) hN hT h0 (fun k hk => ⟨(hf k hk).1, by have := (hf k hk).2; omega⟩) (fun k hk => (hg k hk).1) hs ha N 0 b (by omega) (by omega) (fun k hk => absurd hk (Nat.not_lt_zero k))
      obtain ⟨b2, p2, q2⟩ := m_goes_91 (N := N) (b := fun k => chD nW (tF nT tf tt tw) w sh i k * (10 - tS nT tf tw k)) hT hW h0 hf ht hg ha N 0 b1 (by omega) (by omega) (fun v hv => by rw [sm_0, Nat.add_zero]; exact q1 v hv)
      obtain ⟨a1, p3, q3⟩ := m_goes_147 (N := N) (sh := sh) q2 N 0 a (by omega) (by omega) (fun k hk => absurd hk (Nat.not_lt_zero k))
      rw [show nI 0 = 0 from rfl] at p1 p2 p3
      obtain ⟨a', b', h7, h8⟩ := ih (i + 1) a1 b2 (by omega) (by omega) (by
        intro k hk
        rw [q3 k hk, chS_alt (fun k hk => (hf k hk).2) (fun k hk => (ht k hk).2) hn (chD_out hw i)]
        rfl)
      refine ⟨a', b', ?_, h8⟩
      rw [p1, z_ob2, p2, z_ob2, p3, z_ob2]
      simp (disch := omega) only [z_lit, z_le, z_add, if_neg, h7]
    · have : i = d := by omega
      subst this
      exact ⟨a, b, by simp (disch := omega) only [z_le, if_pos], ha⟩
theorem m_goes {N nT nW w sh d : Nat} {turns turnFrom turnWeight turnTo now : Nat → Int32} {tf tt tw : Nat → Nat} (hN : 100 < N) (hT : nT ≤ 30) (hW : nW ≤ 6) (hw : w < nW) (hd : d < 100) (hn1 : now 1 = nI w) (h0 : turns 0 = nI nT) (hf : ∀ k, k < nT → turnFrom k = nI (tf k) ∧ tf k < nW) (ht : ∀ k, k < nT → turnTo k = nI (tt k) ∧ tt k < nW) (hg : ∀ k, k < nT → turnWeight k = nI (tw k) ∧ tw k < 2 ^ 31) (hn : ∀ k, k < nT → tf k ≠ tt k) (hs : ∀ w, w < 6 → tS nT tf tw w ≤ 10) (a b : Nat → Int64) : ∃ a' b', f_X9_goesOn N now a turns turnFrom turnWeight b turnTo (nI d) (shI sh) = some (a', b') ∧ ∀ k, k < 6 → a' k = lN (chD nW (tF nT tf tt tw) w sh d k) := by
  obtain ⟨a1, h1, h2⟩ := m_goes_2 (N := N) (w := w) (sh := sh) (by omega) hn1 N 0 a (by omega) (by omega) (fun k hk => absurd hk (Nat.not_lt_zero k))
  obtain ⟨a2, b2, h3, h4⟩ := m_goes_42 (N := N) (sh := sh) hN hT hW hw hd h0 hf ht hg hn hs N 0 a1 b (by omega) (by omega) h2
  rw [show nI 0 = 0 from rfl] at h1 h3
  exact ⟨a2, b2, by unfold f_X9_goesOn; rw [h1, z_ob2, h3, z_ob3], h4⟩
/-- the weight of a region in a wind: by the last of its namings; as a sum -/
def lP (na : Nat → Nat) (nr nw : Nat → Nat) (w r : Nat) : Nat := sm (na w) (fun k => if nr (8 * w + k) = r then nw (8 * w + k) else 0)
def lS (na : Nat → Nat) (nw : Nat → Nat) (w : Nat) : Nat := sm (na w) (fun k => nw (8 * w + k))
/-- the table of places -/
def lT (na : Nat → Nat) (nr nw : Nat → Nat) (w r : Nat) : Nat := if r = 8 then 10 - lS na nw w else lP na nr nw w r
theorem m_weightBy_8 {N nW w : Nat} {x2 : Int32} {p : Nat → Prop} {dp : DecidablePred p} {named namedWeight namedRegion : Nat → Int32} {na nr nw : Nat → Nat} (hw : w < nW) (hW : nW ≤ 6) (ha : ∀ w, w < nW → named w = nI (na w) ∧ na w ≤ 8) (hr : ∀ w k, w < nW → k < na w → namedRegion (8 * w + k) = nI (nr (8 * w + k)) ∧ nr (8 * w + k) < 8) (hg : ∀ w k, w < nW → k < na w → namedWeight (8 * w + k) = nI (nw (8 * w + k))) (hd : ∀ k j, k < na w → j < k → p (nr (8 * w + k)) → p (nr (8 * w + j)) → False) (hx : ∀ r, r < 8 → ((nI r = x2) ↔ p r)) : ∀ (n i a b : Nat), i ≤ na w → na w - i < n → a = sm i (fun k => if p (nr (8 * w + k)) then nw (8 * w + k) else 0) → b = sm i (fun k => nw (8 * w + k)) → f_X9_weightBy_8 N named namedWeight namedRegion (nI w) x2 n (nI i) (nI a) (nI b) = some (nI (na w), nI (sm (na w) (fun k => if p (nr (8 * w + k)) then nw (8 * w + k) else 0)), nI (lS na nw w)) := by
  intro n
  induction n with
  | zero => intro i a b h1 h2; omega
  | succ n ih =>
    intro i a b h1 h2 h3 h4
    rw [f_X9_weightBy_8.eq_2]
    obtain ⟨a1, a2⟩ := ha w hw
    by_cases h : i < na w
    · obtain ⟨r1, r2⟩ := hr w i hw h
      have g1 := hg w i hw h
      have x1 := hx _ r2
      by_cases e : p (nr (8 * w + i))
      · have hz : a = 0 := by
          rw [h3]
          refine (sm_congr (fun k hk => ?_)).trans (sm_zero i)
          rw [if_neg (fun q => hd i k h hk e q)]
        have := ih (i + 1) (nw (8 * w + i)) (b + nw (8 * w + i)) (by omega) (by omega) (by rw [sm_s, ← h3, hz, if_pos e, Nat.zero_add]) (by rw [sm_s, ← h4])
        have x2 := x1.mpr e
        simp (disch := first | omega | assumption) only [z_lit, a1, r1, g1, z_le, z_gIx, z_cl, z_mul, z_add, if_pos, if_neg, this]
      · have := ih (i + 1) a (b + nw (8 * w + i)) (by omega) (by omega) (by rw [sm_s, ← h3, if_neg e, Nat.add_zero]) (by rw [sm_s, ← h4])
        have x2 := fun q => e (x1.mp q)
        simp (disch := first | omega | assumption) only [z_lit, a1, r1, g1, z_le, z_gIx, z_cl, z_mul, z_add, if_pos, if_neg, this]
    · have : i = na w := by omega
      subst this
      subst h3 h4
      simp (disch := omega) only [a1, z_le, z_gIx, z_cl, if_pos]
      rfl
theorem m_weightBy {N nW w r : Nat} {named namedWeight namedRegion : Nat → Int32} {na nr nw : Nat → Nat} (hN : 100 < N) (hw : w < nW) (hW : nW ≤ 6) (hr8 : r < 8) (ha : ∀ w, w < nW → named w = nI (na w) ∧ na w ≤ 8) (hr : ∀ w k, w < nW → k < na w → namedRegion (8 * w + k) = nI (nr (8 * w + k)) ∧ nr (8 * w + k) < 8) (hg : ∀ w k, w < nW → k < na w → namedWeight (8 * w + k) = nI (nw (8 * w + k))) (hd : ∀ w k j, w < nW → k < na w → j < k → nr (8 * w + k) ≠ nr (8 * w + j)) : f_X9_weightBy N named namedWeight namedRegion (nI w) (nI r) = some (nI (lT na nr nw w r)) := by
  have := m_weightBy_8 (N := N) (w := w) (x2 := nI r) (p := fun q => q = r) (dp := inferInstance) hw hW ha hr hg (fun k j h1 h2 h3 h4 => hd w k j hw h1 h2 (h3.trans h4.symm)) (fun q hq => by rw [z_eq (by omega) (by omega)]) N 0 0 0 (by omega) (by have := (ha w hw).2; omega) rfl rfl
  rw [show nI 0 = 0 from rfl] at this
  unfold f_X9_weightBy
  rw [this, z_ob3, if_neg (by rw [z_m2 (by omega)]; exact id)]
  unfold lT lP
  rw [if_neg (by omega)]
theorem m_weightSea {N nW w : Nat} {named namedWeight namedRegion : Nat → Int32} {na nr nw : Nat → Nat} (hN : 100 < N) (hw : w < nW) (hW : nW ≤ 6) (ha : ∀ w, w < nW → named w = nI (na w) ∧ na w ≤ 8) (hr : ∀ w k, w < nW → k < na w → namedRegion (8 * w + k) = nI (nr (8 * w + k)) ∧ nr (8 * w + k) < 8) (hg : ∀ w k, w < nW → k < na w → namedWeight (8 * w + k) = nI (nw (8 * w + k))) (hs : ∀ w, w < nW → lS na nw w ≤ 10) : f_X9_weightBy N named namedWeight namedRegion (nI w) (-2) = some (nI (lT na nr nw w 8)) := by
  have := m_weightBy_8 (N := N) (w := w) (x2 := -2) (p := fun q => False) (dp := fun _ => instDecidableFalse) hw hW ha hr hg (fun k j h1 h2 h3 h4 => h3) (fun q hq => by rw [z_m2 (by omega)]) N 0 0 0 (by omega) (by have := (ha w hw).2; omega) rfl rfl
  rw [show nI 0 = 0 from rfl] at this
  unfold f_X9_weightBy
  rw [this, z_ob3, if_pos rfl]
  unfold lT
  rw [if_pos rfl, show (10 : Int32) = nI 10 from rfl, z_sub (hs w hw)]
theorem m_landing_59 {N nW : Nat} {x1 : Int32} {winds named namedWeight namedRegion : Nat → Int32} {cc : Nat → Int64} {ch f : Nat → Nat} (hW : nW ≤ 6) (h0 : winds 0 = nI nW) (hf : ∀ w, w < nW → f_X9_weightBy N named namedWeight namedRegion (nI w) x1 = some (nI (f w)) ∧ f w < 2 ^ 31) (hc : ∀ k, k < 6 → cc k = lN (ch k)) : ∀ (n i a : Nat), i ≤ nW → nW - i < n → a = sm i (fun w => ch w * f w) → f_X9_landingChance_59 N winds named namedWeight namedRegion x1 cc n (nI i) (lN a) = some (nI nW, lN (sm nW (fun w => ch w * f w))) := by
  intro n
  induction n with
  | zero => intro i a h1 h2; omega
  | succ n ih =>
    intro i a h1 h2 ha
    rw [f_X9_landingChance_59.eq_2]
    by_cases h : i < nW
    · obtain ⟨f1, f2⟩ := hf i h
      have := ih (i + 1) (a + ch i * f i) (by omega) (by omega) (by rw [ha, sm_s])
      simp (disch := omega) only [z_lit, h0, f1, hc, z_le, z_gIx, z_cl, z_add, z_l, z_ob1, lN_mul, lN_add, if_neg, this]
    · have : i = nW := by omega
      subst this
      subst ha
      simp (disch := omega) only [z_lit, h0, z_le, z_gIx, z_cl, if_pos]
/-- the inner loop of an answer's chance (q: with pigeons, else of a delivery) -/
theorem m_chance_26 {N nW nR w p : Nat} {x1 : Int32} {regions named namedWeight namedRegion risk comesBack : Nat → Int32} {cc : Nat → Int64} {ch kr kc f c : Nat → Nat} (hN : 100 < N) (hN2 : N < 2 ^ 31) (hW : nW ≤ 6) (hR : nR ≤ 8) (hw : w < nW) (h0 : regions 0 = nI nR) (hx : (x1 = -1 ∧ (∀ r, c r = 1)) ∨ (x1 = nI p ∧ p ≤ 4 ∧ ∀ r, c r = 10 ^ p - (10 - kc r) ^ p)) (hf : ∀ r, r < nR → f_X9_weightBy N named namedWeight namedRegion (nI w) (nI r) = some (nI (f r)) ∧ f r < 2 ^ 31) (hk : ∀ k, k < nR → risk k = nI (kr k) ∧ kr k ≤ 10) (hm : ∀ k, k < nR → comesBack k = nI (kc k) ∧ kc k ≤ 10) (hc : ∀ k, k < 6 → cc k = lN (ch k)) (a0 : Nat) : ∀ (n i a : Nat), i ≤ nR → nR - i < n → a = a0 + sm i (fun r => ch w * f r * (10 - kr r) * c r) → f_X9_chanceOf_26 N regions named namedWeight namedRegion risk comesBack x1 cc (nI w) n (nI i) (lN a) = some (nI nR, lN (a0 + sm nR (fun r => ch w * f r * (10 - kr r) * c r))) := by
  intro n
  induction n with
  | zero => intro i a h1 h2; omega
  | succ n ih =>
    intro i a h1 h2 ha
    rw [f_X9_chanceOf_26.eq_2]
    by_cases h : i < nR
    · obtain ⟨f1, f2⟩ := hf i h
      obtain ⟨k1, k2⟩ := hk i h
      obtain ⟨m1, m2⟩ := hm i h
      have := ih (i + 1) (a + ch w * f i * (10 - kr i) * c i) (by omega) (by omega) (by rw [ha, sm_s, Nat.add_assoc])
      have hcw := hc w (by omega)
      rcases hx with ⟨e1, e2⟩ | ⟨e1, e3, e2⟩
      · have e4 : ¬ (0 : Int32) ≤ x1 := by rw [e1]; decide
        have e5 := e2 i
        rw [e5, ← lN_add, ← lN_mul, show lN 1 = 1 from rfl] at this
        rw [if_neg e4]
        have e9 : (10 : Int32) - nI (kr i) = nI (10 - kr i) := z_sub (a := 10) k2
        have e8 : nI i + 1 = nI (i + 1) := nI_1 i
        have e7 : gIx (γ := Int32 × Int64) 0 2 = id := by funext k; exact z_gIx (i := 0) (by omega) (by omega)
        have e6 : (0 : Int32).toNatClampNeg = 0 := rfl
        simp (disch := omega) only [e6, e7, e8, e9, id, h0, f1, hcw, k1, z_le, z_gIx, z_cl, z_l, z_ob1, lN_mul, if_neg]
        exact this
      · have e4 : (0 : Int32) ≤ x1 := by rw [e1]; exact nI_pos' (by omega)
        rw [if_pos e4]
        have h6 := s_power (N := N) (b := 10 - kc i) (e := p) (by omega) (by omega) hN2
        have h7 := s_power (N := N) (b := 10) (e := p) (by omega) (by omega) hN2
        rw [show nI 10 = 10 from rfl, ← e1, ← s_X9_power] at h7
        rw [← e1, ← s_X9_power] at h6
        have h8 : (10 - kc i) ^ p ≤ 10 ^ p := Nat.pow_le_pow_left (by omega) p
        have e9 : (10 : Int32) - nI (kr i) = nI (10 - kr i) := z_sub (a := 10) k2
        have e10 : (10 : Int32) - nI (kc i) = nI (10 - kc i) := z_sub (a := 10) m2
        have e8 : nI i + 1 = nI (i + 1) := nI_1 i
        have e7 : gIx (γ := Int32 × Int64) 0 2 = id := by funext k; exact z_gIx (i := 0) (by omega) (by omega)
        have e6 : (0 : Int32).toNatClampNeg = 0 := rfl
        rw [e2 i] at this
        simp (disch := first | omega | assumption) only [e6, e7, e8, e9, e10, h6, h7, id, h0, f1, hcw, k1, m1, z_le, z_gIx, z_cl, z_l, z_ob1, lN_mul, lN_sub, lN_add, if_neg, this]
    · have : i = nR := by omega
      subst this
      subst ha
      simp (disch := omega) only [z_lit, h0, z_le, z_gIx, z_cl, if_pos]
theorem m_chance_12 {N nW nR p : Nat} {x1 : Int32} {winds regions named namedWeight namedRegion risk comesBack : Nat → Int32} {cc : Nat → Int64} {ch kr kc c : Nat → Nat} {L : Nat → Nat → Nat} (hN : 100 < N) (hN2 : N < 2 ^ 31) (hW : nW ≤ 6) (hR : nR ≤ 8) (hw0 : winds 0 = nI nW) (h0 : regions 0 = nI nR) (hx : (x1 = -1 ∧ (∀ r, c r = 1)) ∨ (x1 = nI p ∧ p ≤ 4 ∧ ∀ r, c r = 10 ^ p - (10 - kc r) ^ p)) (hf : ∀ w r, w < nW → r < nR → f_X9_weightBy N named namedWeight namedRegion (nI w) (nI r) = some (nI (L w r)) ∧ L w r < 2 ^ 31) (hk : ∀ k, k < nR → risk k = nI (kr k) ∧ kr k ≤ 10) (hm : ∀ k, k < nR → comesBack k = nI (kc k) ∧ kc k ≤ 10) (hc : ∀ k, k < 6 → cc k = lN (ch k)) : ∀ (n i a : Nat), i ≤ nW → nW - i < n → a = sm i (fun w => sm nR (fun r => ch w * L w r * (10 - kr r) * c r)) → f_X9_chanceOf_12 N winds regions named namedWeight namedRegion risk comesBack x1 cc n (nI i) (lN a) = some (nI nW, lN (sm nW (fun w => sm nR (fun r => ch w * L w r * (10 - kr r) * c r)))) := by
  intro n
  induction n with
  | zero => intro i a h1 h2; omega
  | succ n ih =>
    intro i a h1 h2 ha
    rw [f_X9_chanceOf_12.eq_2]
    by_cases h : i < nW
    · have h3 := m_chance_26 (N := N) (w := i) hN hN2 hW hR h h0 hx (fun r hr => hf i r h hr) hk hm hc a N 0 a (by omega) (by omega) rfl
      rw [show nI 0 = 0 from rfl] at h3
      have := ih (i + 1) (a + sm nR (fun r => ch i * L i r * (10 - kr r) * c r)) (by omega) (by omega) (by rw [ha, sm_s])
      rw [h3, z_ob2]
      simp (disch := omega) only [z_lit, hw0, z_le, z_gIx, z_cl, z_add, if_neg, this]
    · have : i = nW := by omega
      subst this
      subst ha
      simp (disch := omega) only [z_lit, hw0, z_le, z_gIx, z_cl, if_pos]
/-- the two orders of the sum are one -/
theorem chA_alt (nW nR : Nat) (L : Nat → Nat → Nat) (kr c ch : Nat → Nat) : sm nW (fun w => sm nR (fun r => ch w * L w r * (10 - kr r) * c r)) = sm nR (fun r => chL nW L ch r * (10 - kr r) * c r) := by
  rw [sm_comm]
  refine sm_congr (fun r _ => ?_)
  unfold chL
  rw [Nat.mul_assoc, ← sm_mulr]
  exact sm_congr (fun w _ => by rw [Nat.mul_assoc])
