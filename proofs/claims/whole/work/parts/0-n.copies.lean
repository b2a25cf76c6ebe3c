variable {G : Nat → Nat → Nat} {regions balloons letters loft start seed count turnCount : Int32} {risk distance comeback capacity pigeons weight priority turnFrom turnTo follow land aimCount aim : Nat → Int32} {mLoft mStart mSeed : Int32} {mRegions mRisk mDistance mBack mWinds mNamed mNR mNW mTurns mTF mTT mTW mBalloons mRoom mPigeons mLetters mWeight mPriority : Nat → Int32}
variable {P : Nat → Nat → Nat} {T : Nat} {day wind loftN lost lc jc : Int32} {ds : Int64} {jk jn jd bst br cg lt an ho du la mNow : Nat → Int32}
/-- a state of the class and one of the model are the same -/
def RSx (G : Nat → Nat → Nat) (T : Nat) (day wind loftN lost lc : Int32) (ds : Int64) (jc : Int32) (jk jn jd bst br cg lt an ho du la mNow : Nat → Int32) : Prop :=
  ∃ P : Nat → Nat → Nat, RSn G P T day wind loftN lost ds mNow ∧ RSj P jc jk jn jd mNow ∧ RSb G P bst br cg mNow ∧ RSl G P lt an mNow ∧ RSa G P T lc ho du la ∧ RSf P mNow ∧ RSi G P
theorem fl_40 (hG : WF G) (ha : RSa G P T lc ho du la) (hi : RSi G P) : (fl (P 1) (P 2) (P 0 3)).length ≤ 40 ∧ P 0 3 ≤ 10 := by
  have g3 : G 0 3 ≤ 10 := hG.1.2.2.2.1
  obtain ⟨ha1, ha2, ha3⟩ := ha
  obtain ⟨hi1, hi2, hi3, hi4, hi5⟩ := hi
  have e2 := fl_sum (n := G 0 3) (q := P 6) (h := P 2) (fun j hj => (ha2 j hj).2) (fun b hb => hi1 b (by omega)) (fun b hb e => (hi2 b (by omega) e).1)
  refine ⟨fl_len_le (G := G) (n := G 0 3) (fun b hb => (ha3 b (by omega)).2.1) e2 g3, ?_⟩
  have s1 : sm 10 (fun b => sm (P 0 3) (fun j => if P 1 j = b then 1 else 0)) = P 0 3 := by
    rw [sm_comm]
    have : ∀ j, j < P 0 3 → sm 10 (fun b => if P 1 j = b then 1 else 0) = 1 := by
      intro j hj
      have e := sm_delta (P 1 j) (fun _ => 1) 10
      have := (ha2 j hj).2
      rw [if_pos (by omega)] at e
      refine Eq.trans (sm_congr (fun k _ => ?_)) e
      by_cases e : P 1 j = k
      · rw [if_pos e, if_pos e.symm]
      · rw [if_neg e, if_neg (fun q => e q.symm)]
    rw [sm_congr this, sm_const]; omega
  have s2 : sm 10 (fun b => sm (P 0 3) (fun j => if P 1 j = b then 1 else 0)) ≤ sm 10 (fun _ => 1) := sm_le (fun b hb => by rw [hi1 b hb]; split <;> omega)
  rw [s1, sm_const] at s2
  omega
theorem RSx.mono {T' : Nat} (hT : T ≤ T') (h : RSx G T day wind loftN lost lc ds jc jk jn jd bst br cg lt an ho du la mNow) : RSx G T' day wind loftN lost lc ds jc jk jn jd bst br cg lt an ho du la mNow := by
  obtain ⟨P, hn, hj, hb, hl, ha, hf, hi⟩ := h
  refine ⟨P, ⟨⟨hn.1.1, hn.1.2.1, by have := hn.1.2.2; omega⟩, hn.2⟩, hj, hb, hl, ⟨ha.1, ha.2.1, fun b hb => ?_⟩, hf, hi⟩
  obtain ⟨p1, p2, p3, p4⟩ := ha.2.2 b hb
  exact ⟨p1, p2, p3, by omega⟩
/-- what lies beyond the rows doesn't matter -/
theorem RSx.congr {jk' jn' jd' bst' br' cg' lt' an' ho' du' la' mNow' : Nat → Int32} (hG : WF G) (h : RSx G T day wind loftN lost lc ds jc jk jn jd bst br cg lt an ho du la mNow) (e1 : ∀ q, q < 16 → jk' q = jk q) (e2 : ∀ q, q < 16 → jn' q = jn q) (e3 : ∀ q, q < 16 → jd' q = jd q) (e4 : ∀ q, q < 10 → bst' q = bst q) (e5 : ∀ q, q < 10 → br' q = br q) (e6 : ∀ q, q < 10 → cg' q = cg q) (e7 : ∀ q, q < 4 → lt' q = lt q) (e8 : ∀ q, q < 24 → an' q = an q) (e9 : ∀ q, q < 10 → ho' q = ho q) (e10 : ∀ q, q < 10 → du' q = du q) (e11 : ∀ q, q < 10 → la' q = la q) (e12 : ∀ q, q < 213 → mNow' q = mNow q) : RSx G T day wind loftN lost lc ds jc jk' jn' jd' bst' br' cg' lt' an' ho' du' la' mNow' := by
  have g4 : G 0 4 ≤ 24 := hG.1.2.2.2.2.1
  obtain ⟨P, hn, hj, hb, hl, ha, hf, hi⟩ := h
  obtain ⟨hf40, hc10⟩ := fl_40 hG ha hi
  obtain ⟨⟨n1, n2, n3⟩, ⟨n4, n5, n6⟩, ⟨n7, n8, n9⟩, n10, n11⟩ := hn
  obtain ⟨j1, j2, j3, j4⟩ := hj
  obtain ⟨b1, b2, b3⟩ := hb
  obtain ⟨l1, l2, l3⟩ := hl
  obtain ⟨a1, a2, a3⟩ := ha
  obtain ⟨f1, f2⟩ := hf
  refine ⟨P, ⟨⟨n1, (e12 0 (by omega)).trans n2, n3⟩, ⟨(e12 1 (by omega)).trans n4, n5, n6⟩, ⟨n7, (e12 2 (by omega)).trans n8, n9⟩, (e12 3 (by omega)).trans n10, (e12 4 (by omega)).trans n11⟩, ⟨j1, (e12 _ (by omega)).trans j2, j3, fun j hj => ?_⟩, ⟨fun b hb => ?_, fun b hb => ?_, fun b hb => ?_⟩, ⟨fun st hs => ?_, fun k hk => ?_, fun k hk => ?_⟩, ⟨a1, fun j hj => ?_, fun b hb => ?_⟩, ⟨(e12 _ (by omega)).trans f1, fun i q hq => ?_⟩, hi⟩
  · rw [e1 j (by omega), e2 j (by omega), e3 j (by omega), e12 _ (by omega), e12 _ (by omega), e12 _ (by omega)]; exact j4 j hj
  · rw [e4 b hb, e12 _ (by omega)]; exact b1 b hb
  · rw [e5 b hb, e12 _ (by omega)]; exact b2 b hb
  · rw [e6 b hb, e12 _ (by omega)]; exact b3 b hb
  · rw [e7 st hs]; exact l1 st hs
  · rw [e12 _ (by omega)]; exact l2 k hk
  · rw [e8 k hk, e12 _ (by omega)]; exact l3 k hk
  · rw [e11 j (by omega)]; exact a2 j hj
  · rw [e9 b hb, e10 b hb]; exact a3 b hb
  · have hil := (List.getElem?_eq_some_iff.mp hq).1
    rw [e12 _ (by omega), e12 _ (by omega)]; exact f2 i q hq
theorem cpy_lt {α : Type} {f g : Nat → α} {n q : Nat} (h : q < n) : va_cpy f g 0 0 n q = f q := by
  rw [pk_cpy_in (Nat.zero_le q) (by omega), Nat.zero_add, Nat.sub_zero]
/-- copyFrom -/
theorem e_copyFrom {N : Nat} {jk2 jn2 jd2 bst2 br2 cg2 lt2 an2 ho2 du2 la2 mNow' : Nat → Int32} (hG : WF G) (h : RSx G T day wind loftN lost lc ds jc jk jn jd bst br cg lt an ho du la mNow) (hq : ∀ q, q < 213 → mNow' q = mNow q) : ∃ a1 a2 a3 a4 a5 a6 a7 a8 a9 a10 a11, f_X6_copyFrom N day wind loftN lost lc ds jc jk jk2 jn jn2 jd jd2 bst bst2 br br2 cg cg2 lt lt2 an an2 ho ho2 du du2 la la2 = some (day, wind, loftN, lost, lc, ds, jc, a1, a2, a3, a4, a5, a6, a7, a8, a9, a10, a11) ∧ RSx G T day wind loftN lost lc ds jc a1 a2 a3 a4 a5 a6 a7 a8 a9 a10 a11 mNow' :=
  ⟨_, _, _, _, _, _, _, _, _, _, _, rfl, h.congr hG (fun q h => cpy_lt h) (fun q h => cpy_lt h) (fun q h => cpy_lt h) (fun q h => cpy_lt h) (fun q h => cpy_lt h) (fun q h => cpy_lt h) (fun q h => cpy_lt h) (fun q h => cpy_lt h) (fun q h => cpy_lt h) (fun q h => cpy_lt h) (fun q h => cpy_lt h) hq⟩
/-- keeps: model -/
theorem m_keeps {N m : Nat} {undo now : Nat → Int32} (hN : 3000 < N) (hm : m ≤ 12) : ∃ undo', f_X9_keeps N (nI m) undo now = some (nI (if m = 12 then 12 else m + 1), undo') ∧ ∀ i q, i < (if m = 12 then 12 else m + 1) → q < 213 → undo' (213 * i + q) = if i + 1 = (if m = 12 then 12 else m + 1) then now q else undo (213 * (if m = 12 then i + 1 else i) + q) := by
  unfold f_X9_keeps
  have hj : ∀ (e : Nat) (u : Nat → Int32), e < 12 → ∃ undo', f_X9_keeps_j42 N now (nI e) u = some (nI (e + 1), undo') ∧ ∀ q, undo' q = if 213 * e ≤ q ∧ q < 213 * e + 213 then now (q - 213 * e) else u q := by
    intro e u he
    obtain ⟨u', p1, p2⟩ := m_cp (N := N) (a := 0) (b := 213 * e) (m := 213) (sz := 213) (sy := 2556) (by omega) (by omega) (by omega) (by omega) hN (by omega) now u
    unfold f_X9_keeps_j42
    have e1 : (213 : Int32) * nI e = nI (213 * e) := by rw [show (213 : Int32) = nI 213 from rfl, z_mul]
    have e2 : nI e + 1 = nI (e + 1) := nI_1 e
    rw [show nI 0 = 0 from rfl, show nI 213 = 213 from rfl] at p1
    rw [e1, e2, p1, z_ob1]
    exact ⟨u', rfl, fun q => p2 q⟩
  have e0 : (nI m = 12) = (m = 12) := z_eq (b := 12) (by omega) (by omega)
  simp only [e0]
  by_cases h : m = 12
  · subst h
    obtain ⟨u1, p1, p2⟩ := m_cpal (N := N) (a := 213) (b := 0) (m := 2343) (sz := 2556) (by omega) (by omega) (by omega) hN (by omega) undo
    obtain ⟨u2, r1, r2⟩ := hj 11 u1 (by omega)
    have e1 : (213 : Int32) * (nI 12 - 1) = nI 2343 := by decide
    have e2 : nI 12 - 1 = nI 11 := by decide
    rw [show nI 213 = 213 from rfl, show nI 0 = 0 from rfl] at p1
    simp only [if_true]
    rw [e1, p1, z_ob1, e2]
    refine ⟨u2, r1, fun i q hi hq => ?_⟩
    rw [r2]
    by_cases e : i = 11
    · subst e
      rw [if_pos (by omega), if_pos rfl]
      exact congrArg now (by omega)
    · rw [if_neg (by omega), if_neg (by omega), p2, if_pos (by omega)]
      exact congrArg undo (by omega)
  · simp only [if_neg h]
    obtain ⟨u2, r1, r2⟩ := hj m undo (by omega)
    refine ⟨u2, r1, fun i q hi hq => ?_⟩
    rw [r2]
    by_cases e : i = m
    · subst e
      rw [if_pos (by omega), if_pos rfl]
      exact congrArg now (by omega)
    · rw [if_neg (by omega), if_neg (by omega)]
