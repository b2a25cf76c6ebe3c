variable {G : Nat → Nat → Nat} {regions balloons letters loft start seed count turnCount : Int32} {risk distance comeback capacity pigeons weight priority turnFrom turnTo follow land aimCount aim : Nat → Int32} {mLoft mStart mSeed : Int32} {mRegions mRisk mDistance mBack mWinds mNamed mNR mNW mTurns mTF mTT mTW mBalloons mRoom mPigeons mLetters mWeight mPriority : Nat → Int32}
variable {P : Nat → Nat → Nat} {T : Nat} {day wind loftN lost lc jc : Int32} {ds : Int64} {jk jn jd bst br cg lt an ho du la mNow : Nat → Int32}
theorem fl_mem {l h : Nat → Nat} {b : Nat} : ∀ {c : Nat}, b ∈ fl l h c ↔ ∃ j, j < c ∧ b = l j ∧ 0 < h b
  | 0 => by
    unfold fl
    constructor
    · intro q; cases q
    · rintro ⟨j, h1, _⟩; omega
  | c + 1 => by
    unfold fl
    rw [List.mem_append, fl_mem (c := c), List.mem_replicate]
    constructor
    · rintro (⟨j, h1, h2, h3⟩ | ⟨h1, h2⟩)
      · exact ⟨j, by omega, h2, h3⟩
      · refine ⟨c, by omega, h2, ?_⟩
        rw [h2]; omega
    · rintro ⟨j, h1, h2, h3⟩
      by_cases e : j = c
      · subst e; right; rw [← h2]; exact ⟨by omega, rfl⟩
      · left; exact ⟨j, by omega, h2, h3⟩
theorem cnt_ex {c b : Nat} {l : Nat → Nat} (h : sm c (fun j => if l j = b then 1 else 0) ≠ 0) : ∃ j, j < c ∧ l j = b := by
  induction c with
  | zero => exact absurd rfl h
  | succ c ih =>
    by_cases e : l c = b
    · exact ⟨c, by omega, e⟩
    · rw [sm_s, if_neg e, Nat.add_zero] at h
      obtain ⟨j, h1, h2⟩ := ih h
      exact ⟨j, by omega, h2⟩
theorem fl_sum {c n : Nat} {l h q : Nat → Nat} (hl : ∀ j, j < c → l j < n) (hc : ∀ b, b < n → sm c (fun j => if l j = b then 1 else 0) = if q b = 0 then 0 else 1) (hq : ∀ b, b < n → q b = 0 → h b = 0) : sm n h = sm c (fun j => h (l j)) := by
  have e1 : sm c (fun j => h (l j)) = sm c (fun j => sm n (fun b => if b = l j then h b else 0)) := by
    refine sm_congr (fun j hj => ?_)
    rw [sm_delta (l j) h n, if_pos (hl j hj)]
  rw [e1, sm_comm]
  refine sm_congr (fun b hb => ?_)
  have e2 : sm c (fun j => if b = l j then h b else 0) = h b * sm c (fun j => if l j = b then 1 else 0) := by
    rw [← sm_mul]
    refine sm_congr (fun j _ => ?_)
    by_cases e : b = l j
    · rw [if_pos e, if_pos e.symm, Nat.mul_one]
    · rw [if_neg e, if_neg (fun q => e q.symm), Nat.mul_zero]
  rw [e2, hc b hb]
  by_cases e : q b = 0
  · rw [if_pos e, hq b hb e, Nat.zero_mul]
  · rw [if_neg e, Nat.mul_one]
theorem s_homing_4 {N n : Nat} {ho : Nat → Int32} {h : Nat → Nat} (hn : n ≤ 10) (hh : ∀ b, b < n → ho b = nI (h b)) : ∀ (m i a : Nat), i ≤ n → n - i < m → a = sm i h → f_X6_homingPigeons_4 N (nI n) ho m (nI i) (nI a) = some (nI n, nI (sm n h)) := by
  intro m
  induction m with
  | zero => intro i a h1 h2; omega
  | succ m ih =>
    intro i a h1 h2 ha
    rw [f_X6_homingPigeons_4.eq_2]
    by_cases h : i < n
    · have h3 := hh i h
      have := ih (i + 1) (a + ‹Nat → Nat› i) (by omega) (by omega) (by rw [ha, sm_s])
      simp (disch := omega) only [z_lit, z_le, z_gIx, z_cl, h3, z_add, if_neg, this]
    · have : i = n := by omega
      subst this
      subst ha
      simp (disch := omega) only [z_le, if_pos]
theorem e_pigeonsOnTheWay {N : Nat} (hN : 100 < N) (hG : WF G) (hc : RGc G regions balloons letters loft start seed count turnCount risk distance comeback capacity pigeons weight priority turnFrom turnTo follow land aimCount aim) (ha : RSa G P T lc ho du la) (hf : RSf P mNow) (hi : RSi G P) : ∃ r, f_X8_pigeonsOnTheWay N balloons ho = some r ∧ f_X9_pigeonsOnTheWay N mNow = some (r, 0) := by
  obtain ⟨⟨g0, g1, g2, g3, g4, g5, g6, g7⟩, gr, ⟨gna, gn1, gn2, gn3⟩, ⟨gt1, gt2, gt3⟩, gb, gl⟩ := hG
  obtain ⟨⟨rfl, rfl, rfl, rfl, rfl, rfl, rfl, rfl⟩, cr, cb, cl, ct, cf, cla, cac, cai⟩ := hc
  obtain ⟨a1, a2, a3⟩ := ha
  obtain ⟨i1, i2, i3, i4, i5⟩ := hi
  unfold f_X8_pigeonsOnTheWay f_X9_pigeonsOnTheWay f_X6_homingPigeons
  have e1 := s_homing_4 (N := N) (h := P 2) g3 (fun b hb => (a3 b (by omega)).1) N 0 0 (by omega) (by omega) rfl
  rw [show nI 0 = 0 from rfl] at e1
  have e2 := fl_sum (n := G 0 3) (q := P 6) (h := P 2) (fun j hj => (a2 j hj).2) (fun b hb => i1 b (by omega)) (fun b hb e => (i2 b (by omega) e).1)
  refine ⟨nI (sm (G 0 3) (P 2)), by rw [e1, z_ob2, z_ob1], ?_⟩
  rw [show (83 : Int32) = nI 83 from rfl, z_gIx (by omega) (by omega), z_cl (by omega), hf.1, fl_len, e2]
/-- the earliest: 0 or one more -/
def er (h u : Nat → Nat) : Nat → Nat
  | 0 => 0
  | i + 1 => if h i = 0 then er h u i else if er h u i = 0 ∨ u i + 1 < er h u i then u i + 1 else er h u i
theorem er_spec (h u : Nat → Nat) : ∀ n : Nat, (er h u n = 0 ∧ ∀ b, b < n → h b = 0) ∨ (∃ b, b < n ∧ 0 < h b ∧ er h u n = u b + 1 ∧ ∀ b', b' < n → 0 < h b' → u b ≤ u b')
  | 0 => Or.inl ⟨rfl, fun b hb => absurd hb (Nat.not_lt_zero b)⟩
  | n + 1 => by
    have e : er h u (n + 1) = if h n = 0 then er h u n else if er h u n = 0 ∨ u n + 1 < er h u n then u n + 1 else er h u n := rfl
    rw [e]
    by_cases h0 : h n = 0
    · rw [if_pos h0]
      rcases er_spec h u n with ⟨h1, h2⟩ | ⟨b, h1, h2, h3, h4⟩
      · left; refine ⟨h1, fun b hb => ?_⟩
        by_cases e : b = n
        · subst e; exact h0
        · exact h2 b (by omega)
      · right; refine ⟨b, by omega, h2, h3, fun b' hb' hh => ?_⟩
        by_cases e : b' = n
        · subst e; omega
        · exact h4 b' (by omega) hh
    · rw [if_neg h0]
      rcases er_spec h u n with ⟨h1, h2⟩ | ⟨b, h1, h2, h3, h4⟩
      · rw [if_pos (Or.inl h1)]
        right; refine ⟨n, by omega, by omega, rfl, fun b' hb' hh => ?_⟩
        by_cases e : b' = n
        · subst e; omega
        · have := h2 b' (by omega); omega
      · by_cases hlt : u n + 1 < er h u n
        · rw [if_pos (Or.inr hlt)]
          right; refine ⟨n, by omega, by omega, rfl, fun b' hb' hh => ?_⟩
          by_cases e : b' = n
          · subst e; omega
          · have := h4 b' (by omega) hh; omega
        · rw [if_neg (by omega)]
          right; refine ⟨b, by omega, h2, h3, fun b' hb' hh => ?_⟩
          by_cases e : b' = n
          · subst e; omega
          · exact h4 b' (by omega) hh
def enc (v : Nat) : Int32 := if v = 0 then -2 else nI (v - 1)
theorem enc_s (v : Nat) : enc (v + 1) = nI v := if_neg (by omega)
theorem s_earliest_5 {N n : Nat} {ho du : Nat → Int32} {h u : Nat → Nat} (hn : n ≤ 10) (hh : ∀ b, b < n → ho b = nI (h b) ∧ h b ≤ 4 ∧ du b = nI (u b) ∧ u b < 2 ^ 30) : ∀ (m i : Nat), i ≤ n → n - i < m → f_X6_earliestReturn_5 N (nI n) du ho m (nI i) (enc (er h u i)) = some (nI n, enc (er h u n)) := by
  intro m
  induction m with
  | zero => intro i h1 h2; omega
  | succ m ih =>
    intro i h1 h2
    rw [f_X6_earliestReturn_5.eq_2]
    by_cases hi : i < n
    · obtain ⟨p1, p2, p3, p4⟩ := hh i hi
      have := ih (i + 1) (by omega) (by omega)
      have e : er h u (i + 1) = if h i = 0 then er h u i else if er h u i = 0 ∨ u i + 1 < er h u i then u i + 1 else er h u i := rfl
      rw [e, ← nI_1 i] at this
      have hub : er h u i < 2 ^ 31 := by
        rcases er_spec h u i with ⟨q1, q2⟩ | ⟨b, q1, q2, q3, q4⟩
        · omega
        · have := (hh b (by omega)).2.2.2; omega
      have h0 : (nI (h i) ≤ 0) = (h i = 0) := by rw [show (0 : Int32) = nI 0 from rfl, z_le (by omega) (by omega)]; exact propext ⟨fun q => by omega, fun q => by omega⟩
      by_cases hz : er h u i = 0
      · have ez : enc (er h u i) = -2 := if_pos hz
        simp (disch := omega) only [z_le, z_gIx, z_cl, p1, p3, h0, ez, if_neg, if_pos, show ((1 : Int32) = 0) = False from eq_false (by decide), if_false]
        by_cases hh0 : h i = 0
        · rw [if_pos hh0] at this; rw [if_pos trivial, if_pos hh0]
          rw [ez] at this; exact this
        · rw [if_neg hh0, if_pos (Or.inl hz), enc_s] at this; rw [if_pos trivial, if_neg hh0]; exact this
      · obtain ⟨v, hv⟩ : ∃ v, er h u i = v + 1 := ⟨er h u i - 1, by omega⟩
        rw [hv] at this hub ⊢
        rw [enc_s]
        simp (disch := omega) only [z_le, z_gIx, z_cl, p1, p3, h0, z_m2, if_neg, if_false, show ((1 : Int32) = 0) = False from eq_false (by decide), show ((0 : Int32) = 0) = True from eq_true rfl, if_true]
        by_cases hle : v ≤ u i
        · rw [if_pos hle]
          by_cases hh0 : h i = 0
          · rw [if_pos hh0, enc_s] at this; rw [if_pos hh0]; exact this
          · rw [if_neg hh0, if_neg (by omega), enc_s] at this; rw [if_neg hh0]; exact this
        · rw [if_neg hle]
          by_cases hh0 : h i = 0
          · rw [if_pos hh0, enc_s] at this; rw [if_pos hh0]; exact this
          · rw [if_neg hh0, if_pos (by omega), enc_s] at this; rw [if_neg hh0]; exact this
    · have : i = n := by omega
      subst this
      simp (disch := omega) only [z_le, if_pos]
theorem m_nextRet_10 {N n : Nat} {now : Nat → Int32} {u : Nat → Nat} (hn : n ≤ 40) (h83 : now 83 = nI n) (hh : ∀ i, i < n → now (124 + i) = nI (u i) ∧ u i < 2 ^ 30) : ∀ (m i : Nat), i ≤ n → n - i < m → f_X9_nextReturn_10 N now m (nI i) (enc (er (fun _ => 1) u i)) = some (nI n, enc (er (fun _ => 1) u n)) := by
  intro m
  induction m with
  | zero => intro i h1 h2; omega
  | succ m ih =>
    intro i h1 h2
    rw [f_X9_nextReturn_10.eq_2, show (83 : Int32) = nI 83 from rfl, z_gIx (by omega) (by omega), z_cl (by omega), h83]
    by_cases hi : i < n
    · obtain ⟨p1, p2⟩ := hh i hi
      have := ih (i + 1) (by omega) (by omega)
      have e : er (fun _ => 1) u (i + 1) = if (1 : Nat) = 0 then er (fun _ => 1) u i else if er (fun _ => 1) u i = 0 ∨ u i + 1 < er (fun _ => 1) u i then u i + 1 else er (fun _ => 1) u i := rfl
      rw [e, if_neg (by omega), ← nI_1 i] at this
      have hub : er (fun _ => 1) u i < 2 ^ 31 := by
        rcases er_spec (fun _ => 1) u i with ⟨q1, q2⟩ | ⟨b, q1, q2, q3, q4⟩
        · omega
        · have := (hh b (by omega)).2; omega
      have c124 : (124 : Int32) + nI i = nI (124 + i) := by rw [show (124 : Int32) = nI 124 from rfl, z_add]
      by_cases hz : er (fun _ => 1) u i = 0
      · have ez : enc (er (fun _ => 1) u i) = -2 := if_pos hz
        rw [if_pos (Or.inl hz), enc_s] at this
        simp (disch := omega) only [c124, z_le, z_gIx, z_cl, p1, ez, if_neg]
        rw [if_pos trivial]; exact this
      · obtain ⟨v, hv⟩ : ∃ v, er (fun _ => 1) u i = v + 1 := ⟨er (fun _ => 1) u i - 1, by omega⟩
        rw [hv] at this hub ⊢
        rw [enc_s]
        simp (disch := omega) only [c124, z_le, z_gIx, z_cl, p1, z_m2, if_neg, if_false]
        by_cases hle : v ≤ u i
        · rw [if_neg (by omega), enc_s] at this; rw [if_pos hle]; exact this
        · rw [if_pos (by omega), enc_s] at this; rw [if_neg hle]; exact this
    · have : i = n := by omega
      subst this
      simp (disch := omega) only [z_le, if_pos]
theorem fl_len_le {G P : Nat → Nat → Nat} {n : Nat} (hi : ∀ b, b < n → P 2 b ≤ 4) (h2 : sm n (P 2) = sm (P 0 3) (fun j => P 2 (P 1 j))) (hn : n ≤ 10) : (fl (P 1) (P 2) (P 0 3)).length ≤ 40 := by
  rw [fl_len, ← h2]
  have := sm_le (g := fun _ => 4) hi
  rw [sm_const] at this
  omega
theorem e_nextReturn {N : Nat} (hN : 100 < N) (hT : T ≤ 1000) (hG : WF G) (hc : RGc G regions balloons letters loft start seed count turnCount risk distance comeback capacity pigeons weight priority turnFrom turnTo follow land aimCount aim) (ha : RSa G P T lc ho du la) (hf : RSf P mNow) (hi : RSi G P) : ∃ r, f_X8_nextReturn N balloons du ho = some r ∧ f_X9_nextReturn N mNow = some (r, 0) := by
  obtain ⟨⟨g0, g1, g2, g3, g4, g5, g6, g7⟩, gr, ⟨gna, gn1, gn2, gn3⟩, ⟨gt1, gt2, gt3⟩, gb, gl⟩ := hG
  obtain ⟨⟨rfl, rfl, rfl, rfl, rfl, rfl, rfl, rfl⟩, cr, cb, cl, ct, cf, cla, cac, cai⟩ := hc
  obtain ⟨a1, a2, a3⟩ := ha
  obtain ⟨i1, i2, i3, i4, i5⟩ := hi
  obtain ⟨f1, f2⟩ := hf
  have e2 := fl_sum (n := G 0 3) (q := P 6) (h := P 2) (fun j hj => (a2 j hj).2) (fun b hb => i1 b (by omega)) (fun b hb e => (i2 b (by omega) e).1)
  have hle := fl_len_le (G := G) (n := G 0 3) (fun b hb => (a3 b (by omega)).2.1) e2 g3
  generalize hFL : fl (P 1) (P 2) (P 0 3) = FL at f1 f2 hle
  have hget : ∀ i, i < FL.length → ∃ b, FL[i]? = some b ∧ b ∈ FL ∧ FL.getD i 0 = b := by
    intro i hi
    refine ⟨FL[i], List.getElem?_eq_getElem hi, List.getElem_mem hi, ?_⟩
    rw [List.getD_eq_getElem?_getD, List.getElem?_eq_getElem hi]; rfl
  have hmem : ∀ b, b ∈ FL → b < G 0 3 ∧ 0 < P 2 b := by
    intro b hb
    rw [← hFL, fl_mem] at hb
    obtain ⟨j, h1, h2, h3⟩ := hb
    exact ⟨by rw [h2]; exact (a2 j h1).2, h3⟩
  have hmem2 : ∀ b, b < G 0 3 → 0 < P 2 b → b ∈ FL := by
    intro b hb h0
    have : P 6 b ≠ 0 := fun q => by have := (i2 b (by omega) q).1; omega
    have h1 := i1 b (by omega)
    rw [if_neg this] at h1
    obtain ⟨j, h2, h3⟩ := cnt_ex (l := P 1) (c := P 0 3) (b := b) (by omega)
    rw [← hFL, fl_mem]
    exact ⟨j, h2, h3.symm, h0⟩
  have k1 := s_earliest_5 (N := N) (h := P 2) (u := P 3) g3 (fun b hb => by obtain ⟨q1, q2, q3, q4⟩ := a3 b (by omega); exact ⟨q1, q2, q3, by omega⟩) N 0 (by omega) (by omega)
  have k2 := m_nextRet_10 (N := N) (n := FL.length) (u := fun i => P 3 (FL.getD i 0)) hle f1 (fun i hi => by
    obtain ⟨b, h1, h2, h3⟩ := hget i hi
    have h4 := (hmem b h2).1
    have h5 := (a3 b (by omega)).2.2.2
    rw [h3]
    exact ⟨(f2 i b h1).2, by omega⟩) N 0 (by omega) (by omega)
  have key : er (P 2) (P 3) (G 0 3) = er (fun _ => 1) (fun i => P 3 (FL.getD i 0)) FL.length := by
    rcases er_spec (P 2) (P 3) (G 0 3) with ⟨p1, p2⟩ | ⟨b, p1, p2, p3, p4⟩ <;> rcases er_spec (fun _ => 1) (fun i => P 3 (FL.getD i 0)) FL.length with ⟨q1, q2⟩ | ⟨i, q1, q2, q3, q4⟩
    · omega
    · obtain ⟨b, h1, h2, h3⟩ := hget i q1
      have := hmem b h2
      have := p2 b this.1
      omega
    · have := hmem2 b p1 p2
      cases hF : FL with
      | nil => rw [hF] at this; cases this
      | cons x t => have := q2 0 (by rw [hF]; simp); omega
    · obtain ⟨b2, h1, h2, h3⟩ := hget i q1
      have hm := hmem b2 h2
      have l1 := p4 b2 hm.1 hm.2
      have hb := hmem2 b p1 p2
      obtain ⟨i2, hi2, hi3⟩ := List.getElem_of_mem hb
      have l2 := q4 i2 hi2 (by omega)
      have e3 : FL.getD i2 0 = b := by rw [List.getD_eq_getElem?_getD, List.getElem?_eq_getElem hi2]; exact hi3
      rw [p3, q3, h3]
      rw [h3, e3] at l2
      omega
  unfold f_X8_nextReturn f_X9_nextReturn f_X6_earliestReturn
  refine ⟨enc (er (P 2) (P 3) (G 0 3)), ?_, ?_⟩
  · exact ob1_of (ob2_of k1)
  · rw [key]; exact ob2_of k2
/-- the model's event -/
theorem m_event {N at_ : Nat} (hj : RSj P jc jk jn jd mNow) (hat : at_ ≤ 197) (x : Int32) : f_X9_event N mNow (nI at_) x = if x < 0 ∨ nI (P 0 4) ≤ x then some (0, 1) else some (mNow (at_ + x.toNatClampNeg), 0) := by
  obtain ⟨j1, j2, j3, j4⟩ := hj
  unfold f_X9_event
  rw [show (164 : Int32) = nI 164 from rfl, z_gIx (by omega) (by omega), z_cl (by omega), j2, z_within (by omega), z_ob1]
  simp only [z_01]
  unfold f_X9_event_j24
  rw [if_neg (show ¬ (1 : Int32) ≤ 0 by decide), if_pos (show (0 : Int32) ≤ 0 by decide)]
  by_cases h : x < 0 ∨ nI (P 0 4) ≤ x
  · rw [if_pos h, if_pos h]
  · rw [if_neg h, if_neg h]
    obtain ⟨k, hk, rfl⟩ := z_j (by omega) h
    rw [z_add, z_gIx (by omega) (by omega), z_cl (by omega), z_cl (by omega)]
