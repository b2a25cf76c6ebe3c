variable {G : Nat → Nat → Nat} {regions balloons letters loft start seed count turnCount : Int32} {risk distance comeback capacity pigeons weight priority turnFrom turnTo follow land aimCount aim : Nat → Int32} {mLoft mStart mSeed : Int32} {mRegions mRisk mDistance mBack mWinds mNamed mNR mNW mTurns mTF mTT mTW mBalloons mRoom mPigeons mLetters mWeight mPriority : Nat → Int32}
variable {P : Nat → Nat → Nat} {T : Nat} {day wind loftN lost lc jc : Int32} {ds : Int64} {jk jn jd bst br cg lt an ho du la mNow : Nat → Int32}
theorem m_clear {N n0 : Nat} (hn : n0 ≤ 40) : ∀ (m i : Nat) (y : Nat → Int32), i ≤ n0 → n0 - i < m → ∃ y', f_X9_comeBack_112 N (nI n0) m (nI i) y = some (nI n0, y') ∧ ∀ q, ¬ (84 + i ≤ q ∧ q < 124) → ¬ (124 + i ≤ q ∧ q < 164) → y' q = y q := by
  intro m
  induction m with
  | zero => intro i y h1 h2; omega
  | succ m ih =>
    intro i y h1 h2
    rw [f_X9_comeBack_112.eq_2]
    by_cases h : i < n0
    · have a84 : (84 : Int32) + nI i = nI (84 + i) := by rw [show (84 : Int32) = nI 84 from rfl, z_add]
      have a124 : (124 : Int32) + nI i = nI (124 + i) := by rw [show (124 : Int32) = nI 124 from rfl, z_add]
      have e1 : nI i + 1 = nI (i + 1) := nI_1 i
      obtain ⟨y', p1, p2⟩ := ih (i + 1) (upd (upd y (84 + i) 0) (124 + i) 0) (by omega) (by omega)
      refine ⟨y', ?_, fun q q1 q2 => ?_⟩
      · rw [if_neg (by rw [z_le (by omega) (by omega)]; omega), a84, a124, z_gIx (by omega) (by omega), z_gIx (by omega) (by omega), z_cl (by omega), z_cl (by omega), e1]; exact p1
      · rw [p2 q (by omega) (by omega), pk_un (by omega), pk_un (by omega)]
    · have : i = n0 := by omega
      subst this
      exact ⟨y, by rw [if_pos (by rw [z_le (by omega) (by omega)]; omega)], fun _ _ _ => rfl⟩
/-- the state behind a day: wind w, draws x, events j -/
def PD (P : Nat → Nat → Nat) (w x j : Nat) : Nat → Nat → Nat :=
  mk (sc (P 0 0 + 1) w x (P 0 3) j) (P 1) (fun q => if P 3 q = P 0 0 + 1 then 0 else P 2 q) (P 3) (eJ (P 1) (P 3) (P 2) (P 5) (P 4) (P 0 0 + 1) (P 0 3)) (P 5) (P 6)
theorem e_back {N w x cj : Nat} {wind' : Int32} {jk1 jn1 jd1 now1 : Nat → Int32} (hN : 3000 < N) (hT : T ≤ 1000) (hG : WF G) (hc : RGc G regions balloons letters loft start seed count turnCount risk distance comeback capacity pigeons weight priority turnFrom turnTo follow land aimCount aim) (hm : RGm G mLoft mStart mSeed mRegions mRisk mDistance mBack mWinds mNamed mNR mNW mTurns mTF mTT mTW mBalloons mRoom mPigeons mLetters mWeight mPriority) (hn : RSn G P T day wind loftN lost ds mNow) (hj : RSj P jc jk jn jd mNow) (hb : RSb G P bst br cg mNow) (hl : RSl G P lt an mNow) (ha : RSa G P T lc ho du la) (hf : RSf P mNow) (hi : RSi G P) (q0 : now1 0 = nI (P 0 0 + 1)) (q1 : now1 1 = wind') (q1' : 0 < G 0 1 → wind' = nI w ∧ w < G 0 1) (q1'' : G 0 1 = 0 → wind' = -2) (q2 : now1 2 = nI x) (hx : x < 2 ^ 31) (q3 : now1 3 = loftN) (q4 : now1 4 = lost) (qj : JR cj (nI cj) jk1 jn1 jd1 now1) (qq : ∀ q, 5 ≤ q → q < 164 → now1 q = mNow q) : ∃ P' loft' jc' jk' jn' jd' ho' lt' an' now', f_X6_passDay_j39 N loftN lc balloons letters la ho du cg lt an (nI (P 0 0 + 1)) wind' (lN x) (nI cj) jk1 jn1 jd1 = some (nI (P 0 0 + 1), wind', loft', lN x, jc', jk', jn', jd', ho', lt', an') ∧ f_X9_comeBack N now1 mLetters = some now' ∧ now' 1 = wind' ∧ RSn G P' (T + 1) (nI (P 0 0 + 1)) wind' loft' lost (lN x) now' ∧ RSj P' jc' jk' jn' jd' now' ∧ RSb G P' bst br cg now' ∧ RSl G P' lt' an' now' ∧ RSa G P' (T + 1) lc ho' du la ∧ RSf P' now' ∧ RSi G P' := by
  have m4 : mLetters 0 = nI (G 0 4) := hm.1.2.2.2.2.1
  have g3 : G 0 3 ≤ 10 := hG.1.2.2.2.1
  have g4 : G 0 4 ≤ 24 := hG.1.2.2.2.2.1
  obtain ⟨hb1, hb2, hb3⟩ := hb
  obtain ⟨hl1, hl2, hl3⟩ := hl
  obtain ⟨ha1, ha2, ha3⟩ := ha
  obtain ⟨hf1, hf2⟩ := hf
  have hi' := hi
  obtain ⟨hi1, hi2, hi3, hi4, hi5⟩ := hi
  have hdT := hn.1.2.2
  have e2 := fl_sum (n := G 0 3) (q := P 6) (h := P 2) (fun j hj => (ha2 j hj).2) (fun b hb => hi1 b (by omega)) (fun b hb e => (hi2 b (by omega) e).1)
  have hle := fl_len_le (G := G) (n := G 0 3) (fun b hb => (ha3 b (by omega)).2.1) e2 g3
  have hc10 : P 0 3 ≤ 10 := by
    have s1 : sm 10 (fun b => sm (P 0 3) (fun j => if P 1 j = b then 1 else 0)) = P 0 3 := by
      rw [sm_comm]
      have : ∀ j, j < P 0 3 → sm 10 (fun b => if P 1 j = b then 1 else 0) = 1 := by
        intro j hj
        have e := sm_delta (P 1 j) (fun _ => 1) 10
        have := (ha2 j hj).2
        rw [if_pos (by omega)] at e
        refine Eq.trans (sm_congr (fun k _ => ?_)) e
        by_cases e : P 1 j = k
        · rw [if_pos e, if_pos e.symm]
        · rw [if_neg e, if_neg (fun q => e q.symm)]
      rw [sm_congr this, sm_const]; omega
    have s2 : sm 10 (fun b => sm (P 0 3) (fun j => if P 1 j = b then 1 else 0)) ≤ sm 10 (fun _ => 1) := sm_le (fun b hb => by rw [hi1 b hb]; split <;> omega)
    rw [s1, sm_const] at s2
    omega
  obtain ⟨loft', c', jk', jn', jd', ho', lt', an', n2, f1, f2, f3, f4, f5, f6, f7, f8, f9, f10⟩ := e_loop (N := N) (d := P 0 0 + 1) (n0 := (fl (P 1) (P 2) (P 0 3)).length) hN hG hc m4 ha2 hc10 (fun b hb => ⟨(ha3 b hb).2.1, (ha3 b hb).2.2.1, by have := (ha3 b hb).2.2.2; omega⟩) (fun b hb => ⟨(hb3 b hb).1, (hb3 b hb).2.2⟩) (by omega) (fun b hb h0 => by have := (hi3 b hb h0).1; omega) hi' hle rfl (fun k hk => (hl2 k hk).2) (P 0 3) 0 N cj loftN jk1 jn1 jd1 ho lt an now1 (by omega) (by omega) qj q0 q3 (fun q hq => (ha3 q hq).1) hl1 (fun k hk => by rw [qq _ (by omega) (by omega)]; exact (hl2 k hk).1) (fun k hk => by rw [qq _ (by omega) (by omega)]; exact hl3 k hk) (fun b hb => by rw [qq _ (by omega) (by omega)]; exact (hb3 b hb).2.1) (fun i q hq => by cases hq) (fun i q _ hq => by
    have hil := (List.getElem?_eq_some_iff.mp hq).1
    rw [qq _ (by omega) (by omega), qq _ (by omega) (by omega)]; exact hf2 i q hq)
  have hstl : (fl (P 1) (fun q => if P 3 q = P 0 0 + 1 then 0 else P 2 q) (P 0 3)).length ≤ (fl (P 1) (P 2) (P 0 3)).length := by
    rw [fl_len, fl_len]
    exact sm_le (fun k _ => by split <;> omega)
  obtain ⟨n3, k1, k2⟩ := m_clear (N := N) hle N (fl (P 1) (fun q => if P 3 q = P 0 0 + 1 then 0 else P 2 q) (P 0 3)).length n2 hstl (by omega)
  have n83 : now1 83 = nI (fl (P 1) (P 2) (P 0 3)).length := by rw [qq 83 (by omega) (by omega)]; exact hf1
  have low : ∀ q, q < 84 → q ≠ 3 → ¬ (35 ≤ q ∧ q < 83) → q ≠ 83 → upd n3 83 (nI (fl (P 1) (fun q => if P 3 q = P 0 0 + 1 then 0 else P 2 q) (P 0 3)).length) q = now1 q := by
    intro q h1 h2 h3 h4
    rw [pk_un h4, k2 q (by omega) (by omega), f10 q h1 h2 h3]
  have hHN : ∀ q, q < 10 → hJ (P 1) (P 3) (P 2) (P 0 0 + 1) (P 0 3) q = if P 3 q = P 0 0 + 1 then 0 else P 2 q := by
    intro q hq
    by_cases e : P 6 q = 0
    · have c0 := hi1 q hq
      rw [if_pos e] at c0
      rw [hJ_same (fun i hi => cnt_ne c0 hi), (hi2 q hq e).1]
      split <;> rfl
    · have c0 := hi1 q hq
      rw [if_neg e] at c0
      exact hJ_fin (cnt_ex (by omega))
  refine ⟨PD P w x c', loft', nI c', jk', jn', jd', ho', lt', an', upd n3 83 (nI (fl (P 1) (fun q => if P 3 q = P 0 0 + 1 then 0 else P 2 q) (P 0 3)).length), ?_, ?_, ?_, ⟨⟨rfl, ?_, ?_⟩, ⟨?_, q1', q1''⟩, ⟨rfl, ?_, hx⟩, ?_, ?_⟩, ?_, ⟨?_, ?_, ?_⟩, ⟨f6, ?_, ?_⟩, ⟨ha1, ha2, ?_⟩, ⟨?_, ?_⟩, ⟨hi1, ?_, ?_, hi4, ?_⟩⟩
  · unfold f_X6_passDay_j39
    rw [ha1]
    rw [show nI 0 = 0 from rfl] at f1
    rw [f1]; rfl
  · unfold f_X9_comeBack
    have i83 : ∀ k, gIx (γ := Nat → Int32) 83 213 k = k := fun k => z_gIx (i := 83) (by omega) (by omega)
    have c83 : (83 : Int32).toNatClampNeg = 83 := rfl
    have key : f_X9_comeBack_12 N mLetters (nI (fl (P 1) (P 2) (P 0 3)).length) N 0 0 now1 = some (nI (fl (P 1) (P 2) (P 0 3)).length, nI (fl (P 1) (fun q => if P 3 q = P 0 0 + 1 then 0 else P 2 q) (P 0 3)).length, n2) := by
      obtain ⟨m, hm⟩ : ∃ m, N = (m + 1) + (fl (P 1) (P 2) (P 0 3)).length := ⟨N - 1 - (fl (P 1) (P 2) (P 0 3)).length, by omega⟩
      have e3 := f2 (m + 1)
      have e4 : m + 1 + ((fl (P 1) (P 2) (P 0 3)).length - (fl (P 1) (P 2) 0).length) = N := by rw [hm]; rfl
      rw [e4] at e3
      refine Eq.trans e3 ?_
      rw [f_X9_comeBack_12.eq_2, if_pos (by rw [z_le (by omega) (by omega)]; omega)]
    rw [i83, c83, n83, key, z_ob3, k1, z_ob2, i83]
  · rw [low 1 (by omega) (by omega) (by omega) (by omega), q1]
  · rw [low 0 (by omega) (by omega) (by omega) (by omega), q0]; rfl
  · show P 0 0 + 1 ≤ T + 1; omega
  · rw [low 1 (by omega) (by omega) (by omega) (by omega), q1]
  · rw [low 2 (by omega) (by omega) (by omega) (by omega), q2]; rfl
  · rw [pk_un (by omega), k2 3 (by omega) (by omega), f4]
  · rw [low 4 (by omega) (by omega) (by omega) (by omega), q4]
  · exact f3.frame (fun q hq => by rw [pk_un (by omega), k2 q (by omega) (by omega)])
  · intro b hb
    rw [low _ (by omega) (by omega) (by omega) (by omega), qq _ (by omega) (by omega)]; exact hb1 b hb
  · intro b hb
    rw [low _ (by omega) (by omega) (by omega) (by omega), qq _ (by omega) (by omega)]; exact hb2 b hb
  · intro b hb
    rw [low _ (by omega) (by omega) (by omega) (by omega), qq _ (by omega) (by omega)]; exact hb3 b hb
  · intro k hk
    rw [pk_un (by omega), k2 _ (by omega) (by omega)]
    exact ⟨f7 k hk, (eJ_lt (hl2 k hk).2).1⟩
  · intro k hk
    rw [pk_un (by omega), k2 _ (by omega) (by omega)]; exact f8 k hk
  · intro b hb
    show ho' b = nI (if P 3 b = P 0 0 + 1 then 0 else P 2 b) ∧ (if P 3 b = P 0 0 + 1 then 0 else P 2 b) ≤ 4 ∧ du b = nI (P 3 b) ∧ P 3 b ≤ T + 1 + 9
    obtain ⟨p1, p2, p3, p4⟩ := ha3 b hb
    refine ⟨by rw [f5 b hb, hHN b hb], by split <;> omega, p3, by omega⟩
  · rw [pk_us]; rfl
  · intro i q hq
    have hq : (fl (P 1) (fun q => if P 3 q = P 0 0 + 1 then 0 else P 2 q) (P 0 3))[i]? = some q := hq
    have hil := (List.getElem?_eq_some_iff.mp hq).1
    rw [pk_un (by omega), pk_un (by omega), k2 _ (by omega) (by omega), k2 _ (by omega) (by omega)]
    exact f9 i q hq
  · intro b hb h6
    show (if P 3 b = P 0 0 + 1 then 0 else P 2 b) = 0 ∧ P 5 b = 0
    obtain ⟨p1, p2⟩ := hi2 b hb h6
    exact ⟨by split <;> omega, p2⟩
  · intro b hb h0
    have h0 : 0 < (if P 3 b = P 0 0 + 1 then 0 else P 2 b) := h0
    show P 0 0 + 1 < P 3 b ∧ ∀ k, k < G 0 4 → (P 5 b).testBit k = true → eJ (P 1) (P 3) (P 2) (P 5) (P 4) (P 0 0 + 1) (P 0 3) k = 2
    by_cases e : P 3 b = P 0 0 + 1
    · rw [if_pos e] at h0; omega
    · rw [if_neg e] at h0
      obtain ⟨p1, p2⟩ := hi3 b hb h0
      refine ⟨by omega, fun k hk hbt => ?_⟩
      rw [eJ_same (fun i hi _ hd => ?_)]
      · exact p2 k hk hbt
      · exact hi4 b (P 1 i) k hb (by have := (ha2 i hi).2; omega) (fun t => e (by rw [t]; exact hd)) hk hbt
  · intro b k hb hk hbt
    show eJ (P 1) (P 3) (P 2) (P 5) (P 4) (P 0 0 + 1) (P 0 3) k ≠ 0
    exact (eJ_lt (hl2 k hk).2).2 (hi5 b k hb hk hbt)
/-- a day passes -/
theorem e_passDay {N : Nat} (und : Int32) (undo : Nat → Int32) (hN : 3000 < N) (hT : T ≤ 1000) (hG : WF G) (hc : RGc G regions balloons letters loft start seed count turnCount risk distance comeback capacity pigeons weight priority turnFrom turnTo follow land aimCount aim) (hm : RGm G mLoft mStart mSeed mRegions mRisk mDistance mBack mWinds mNamed mNR mNW mTurns mTF mTT mTW mBalloons mRoom mPigeons mLetters mWeight mPriority) (hn : RSn G P T day wind loftN lost ds mNow) (hj : RSj P jc jk jn jd mNow) (hb : RSb G P bst br cg mNow) (hl : RSl G P lt an mNow) (ha : RSa G P T lc ho du la) (hf : RSf P mNow) (hi : RSi G P) : ∃ P' day' wind' loft' ds' jc' jk' jn' jd' ho' lt' an' now', f_X6_passDay N day wind loftN lc ds balloons letters count turnCount turnFrom turnTo follow jc jk jn jd la ho du cg lt an = some (day', wind', loft', ds', jc', jk', jn', jd', ho', lt', an') ∧ (gIx 1 213 (gIx 0 213 (gIx 0 213 (gIx 0 2 (if (mWinds (0 : Int32).toNatClampNeg) ≤ 0 then (ob1 (f_X9_comeBack N (upd mNow (0 : Int32).toNatClampNeg ((mNow (0 : Int32).toNatClampNeg) + 1)) mLetters) (fun now_3 => gIx 1 213 (some ((now_3 (1 : Int32).toNatClampNeg), 0, und, undo, now_3)))) else (ob2 (f_X9_draw N (upd mNow (0 : Int32).toNatClampNeg ((mNow (0 : Int32).toNatClampNeg) + 1))) (fun r_4 now_5 => ob3 (f_X9_nextDay_45 N mTurns mTF mTW mTT (mNow (1 : Int32).toNatClampNeg) N 0 (mNow (1 : Int32).toNatClampNeg) r_4) (fun y4_45o y3_45o y2_45o => f_X9_nextDay_j110 N mLetters (mNow (1 : Int32).toNatClampNeg) y3_45o 0 und undo now_5)))))))) = some (wind', 0, und, undo, now') ∧ RSn G P' (T + 1) day' wind' loft' lost ds' now' ∧ RSj P' jc' jk' jn' jd' now' ∧ RSb G P' bst br cg now' ∧ RSl G P' lt' an' now' ∧ RSa G P' (T + 1) lc ho' du la ∧ RSf P' now' ∧ RSi G P' := by
  have g1 : G 0 1 ≤ 6 := hG.1.2.1
  have hcc : count = nI (G 0 1) := hc.1.2.2.2.2.2.2.1
  have m1 : mWinds 0 = nI (G 0 1) := hm.1.2.1
  have e0 : (nI (G 0 1) ≤ 0) = (G 0 1 ≤ 0) := z_le (b := 0) (by omega) (by omega)
  have c1 : (1 : Int32).toNatClampNeg = 1 := rfl
  have i1 : ∀ k, gIx (γ := Int32 × Int32 × Int32 × (Nat → Int32) × (Nat → Int32)) 1 213 k = k := fun k => z_gIx (i := 1) (by omega) (by omega)
  have i0 : ∀ k, gIx (γ := Int32 × Int32 × Int32 × (Nat → Int32) × (Nat → Int32)) 0 213 k = k := fun k => z_gIx (i := 0) (by omega) (by omega)
  have d1 := hn.1.1
  have d2 := hn.1.2.1
  have ed : nI (P 0 0) + 1 = nI (P 0 0 + 1) := nI_1 _
  have hj' : JR (P 0 4) jc jk jn jd mNow := hj
  have hjc : jc = nI (P 0 4) := hj.1
  rw [i1, i0, i0, z_gI0 (n := 2) (by omega) (by omega), z_c0, m1, d2, ed, c1]
  unfold f_X6_passDay
  rw [hcc, d1, ed]
  simp only [e0, i1]
  by_cases hW : G 0 1 = 0
  · rw [if_pos (by omega), if_pos (by omega)]
    obtain ⟨P', loft', jc', jk', jn', jd', ho', lt', an', now', t1, t2, t3, t4⟩ := e_back (N := N) (w := 0) (x := P 0 2) (cj := P 0 4) (wind' := wind) (jk1 := jk) (jn1 := jn) (jd1 := jd) (now1 := upd mNow 0 (nI (P 0 0 + 1))) hN hT hG hc hm hn hj hb hl ha hf hi (by rw [pk_us]) (by rw [pk_un (by omega)]; exact hn.2.1.1) (fun h => by omega) (fun h => hn.2.1.2.2 hW) (by rw [pk_un (by omega)]; exact hn.2.2.1.2.1) hn.2.2.1.2.2 (by rw [pk_un (by omega)]; exact hn.2.2.2.1) (by rw [pk_un (by omega)]; exact hn.2.2.2.2) (by rw [← hjc]; exact hj'.frame (fun q hq => pk_un (by omega))) (fun q h1 _ => pk_un (by omega))
    rw [hn.2.2.1.1, hjc, t1, t2, z_ob1, t3]
    exact ⟨P', _, _, _, _, _, _, _, _, _, _, _, _, rfl, rfl, t4⟩
  · rw [if_neg (by omega), if_neg (by omega)]
    have w1 := hn.2.1.2.1 (by omega)
    have n1 := hn.2.1.1
    have hx := hn.2.2.1.2.2
    have hds := hn.2.2.1.1
    have hn2 := hn.2.2.1.2.1
    have hnx := nx_lt (P 0 2)
    obtain ⟨v, y, g', v1, v2, v3⟩ := e_chooseW (N := N) hG hc hm w1.2 N 0 (dr (P 0 2)) (by omega) (by have := hG.1.2.2.1; omega) (dr_lt _)
    rw [show nI 0 = 0 from rfl] at v2 v3
    have k2 : upd mNow 0 (nI (P 0 0 + 1)) 2 = nI (P 0 2) := by rw [pk_un (by omega), hn2]
    rw [hds, s_draw hx, z_ob2, m_draw hx k2, z_ob2, n1, w1.1]
    unfold f_X7_chooseWind
    rw [← hcc, v2, z_ob1, v3, z_ob3]
    unfold f_X9_nextDay_j110 f_X6_turnWind
    rw [i1, c1]
    by_cases hv : nI v = nI (P 0 1)
    · rw [if_pos hv, if_pos hv, show ∀ (k : Int32 → Int32 → (Nat → Int32) → (Nat → Int32) → (Nat → Int32) → Option (Int32 × Int32 × Int32 × Int64 × Int32 × (Nat → Int32) × (Nat → Int32) × (Nat → Int32) × (Nat → Int32) × (Nat → Int32) × (Nat → Int32))), ob5 (some (nI (P 0 1), jc, jk, jn, jd)) k = k (nI (P 0 1)) jc jk jn jd from fun _ => rfl]
      obtain ⟨P', loft', jc', jk', jn', jd', ho', lt', an', now', t1, t2, t3, t4⟩ := e_back (N := N) (w := P 0 1) (x := nx (P 0 2)) (cj := P 0 4) (wind' := nI (P 0 1)) (jk1 := jk) (jn1 := jn) (jd1 := jd) (now1 := upd (upd (upd mNow 0 (nI (P 0 0 + 1))) 2 (nI (nx (P 0 2)))) 1 (nI v)) hN hT hG hc hm hn hj hb hl ha hf hi (by rw [pk_un (by omega), pk_un (by omega), pk_us]) (by rw [pk_us]; exact hv) (fun h => ⟨rfl, w1.2⟩) (fun h => by omega) (by rw [pk_un (by omega), pk_us]) hnx (by rw [pk_un (by omega), pk_un (by omega), pk_un (by omega)]; exact hn.2.2.2.1) (by rw [pk_un (by omega), pk_un (by omega), pk_un (by omega)]; exact hn.2.2.2.2) (by rw [← hjc]; exact hj'.frame (fun q hq => by rw [pk_un (by omega), pk_un (by omega), pk_un (by omega)])) (fun q h1 _ => by rw [pk_un (by omega), pk_un (by omega), pk_un (by omega)])
      rw [hjc, t1, t2, z_ob1, i1, t3]
      exact ⟨P', _, _, _, _, _, _, _, _, _, _, _, _, rfl, rfl, t4⟩
    · rw [if_neg hv, if_neg hv]
      have hj1 : JR (P 0 4) jc jk jn jd (upd (upd (upd mNow 0 (nI (P 0 0 + 1))) 2 (nI (nx (P 0 2)))) 1 (nI v)) := hj'.frame (fun q hq => by rw [pk_un (by omega), pk_un (by omega), pk_un (by omega)])
      obtain ⟨c', jk1, jn1, jd1, n5, a1, a2, a3, a4⟩ := e_note (N := N) hN hj1 (show upd (upd (upd mNow 0 (nI (P 0 0 + 1))) 2 (nI (nx (P 0 2)))) 1 (nI v) 0 = nI (P 0 0 + 1) by rw [pk_un (by omega), pk_un (by omega), pk_us]) 5 (nI v)
      rw [a1, z_ob4, a2, z_ob1, show ∀ (k : Int32 → Int32 → (Nat → Int32) → (Nat → Int32) → (Nat → Int32) → Option (Int32 × Int32 × Int32 × Int64 × Int32 × (Nat → Int32) × (Nat → Int32) × (Nat → Int32) × (Nat → Int32) × (Nat → Int32) × (Nat → Int32))), ob5 (some (nI v, nI c', jk1, jn1, jd1)) k = k (nI v) (nI c') jk1 jn1 jd1 from fun _ => rfl]
      obtain ⟨P', loft', jc', jk', jn', jd', ho', lt', an', now', t1, t2, t3, t4⟩ := e_back (N := N) (w := v) (x := nx (P 0 2)) (cj := c') (wind' := nI v) (jk1 := jk1) (jn1 := jn1) (jd1 := jd1) (now1 := n5) hN hT hG hc hm hn hj hb hl ha hf hi (by rw [a4 0 (by omega), pk_un (by omega), pk_un (by omega), pk_us]) (by rw [a4 1 (by omega), pk_us]) (fun h => ⟨rfl, v1⟩) (fun h => by omega) (by rw [a4 2 (by omega), pk_un (by omega), pk_us]) hnx (by rw [a4 3 (by omega), pk_un (by omega), pk_un (by omega), pk_un (by omega)]; exact hn.2.2.2.1) (by rw [a4 4 (by omega), pk_un (by omega), pk_un (by omega), pk_un (by omega)]; exact hn.2.2.2.2) a3 (fun q h1 h2 => by rw [a4 q (by omega), pk_un (by omega), pk_un (by omega), pk_un (by omega)])
      rw [t1, t2, z_ob1, i1, t3]
      exact ⟨P', _, _, _, _, _, _, _, _, _, _, _, _, rfl, rfl, t4⟩
