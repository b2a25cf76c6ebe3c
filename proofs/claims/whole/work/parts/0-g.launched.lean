variable {G : Nat → Nat → Nat} {regions balloons letters loft start seed count turnCount : Int32} {risk distance comeback capacity pigeons weight priority turnFrom turnTo follow land aimCount aim : Nat → Int32} {mLoft mStart mSeed : Int32} {mRegions mRisk mDistance mBack mWinds mNamed mNR mNW mTurns mTF mTT mTW mBalloons mRoom mPigeons mLetters mWeight mPriority : Nat → Int32}
variable {P : Nat → Nat → Nat} {T : Nat} {day wind loftN lost lc jc : Int32} {ds : Int64} {jk jn jd bst br cg lt an ho du la mNow : Nat → Int32}
theorem fl_s (l h : Nat → Nat) (c : Nat) : fl l h (c + 1) = fl l h c ++ List.replicate (h (l c)) (l c) := rfl
/-- the state behind a launch of b with the letters s: fate f, letters' state v, t pigeons on their way, due ub -/
def PL (P : Nat → Nat → Nat) (b s f v t ub x j : Nat) : Nat → Nat → Nat :=
  mk (sc (P 0 0) (P 0 1) x (P 0 3 + 1) j) (fun k => if k = P 0 3 then b else P 1 k) (fun q => if q = b then t else P 2 q) (fun q => if q = b then ub else P 3 q) (fun k => if s.testBit k then v else P 4 k) (fun q => if q = b then s else P 5 q) (fun q => if q = b then f else P 6 q)
theorem rs_launch {b s f v t ub x j : Nat} {r lost' loft' jc' : Int32} {jk' jn' jd' lt' ho' du' now' : Nat → Int32} (hG : WF G) (hT : T ≤ 1000)
    (hn : RSn G P T day wind loftN lost ds mNow) (hb : RSb G P bst br cg mNow) (hl : RSl G P lt an mNow) (ha : RSa G P T lc ho du la) (hf : RSf P mNow) (hi : RSi G P)
    (b1 : b < G 0 3) (b2 : P 6 b = 0) (s1 : s < 2 ^ G 0 4) (s2 : ∀ k, k < G 0 4 → s.testBit k = true → P 4 k = 0) (f1 : f < 4) (f2 : f ≠ 0) (v1 : v = 1 ∨ v = 2) (t1 : t ≤ 4) (t2 : 0 < t → P 0 0 < ub ∧ v = 2) (u1 : ub ≤ T + 9) (x1 : x < 2 ^ 31)
    (hj : JR j jc' jk' jn' jd' now')
    (hlt : ∀ st, st < 4 → lt' st = nI (bs (G 0 4) (fun k => (if s.testBit k then v else P 4 k) == st)))
    (hho : ∀ q, q < 10 → ho' q = nI (if q = b then t else P 2 q)) (hdu : ∀ q, q < 10 → du' q = nI (if q = b then ub else P 3 q))
    (n0 : now' 0 = mNow 0) (n1 : now' 1 = mNow 1) (n2 : now' 2 = nI x) (n3 : now' 3 = loft') (n4 : now' 4 = lost')
    (n5 : ∀ q, q < 10 → now' (5 + q) = if q = b then nI f else mNow (5 + q)) (n15 : ∀ q, q < 10 → now' (15 + q) = if q = b then r else mNow (15 + q)) (n25 : ∀ q, q < 10 → now' (25 + q) = if q = b then nI s else mNow (25 + q))
    (n35 : ∀ k, k < G 0 4 → now' (35 + k) = if s.testBit k then nI v else mNow (35 + k)) (n59 : ∀ k, k < 24 → now' (59 + k) = mNow (59 + k))
    (n83 : now' 83 = nI ((fl (P 1) (P 2) (P 0 3)).length + t)) (n84 : ∀ i, i < (fl (P 1) (P 2) (P 0 3)).length → now' (84 + i) = mNow (84 + i) ∧ now' (124 + i) = mNow (124 + i))
    (n84' : ∀ q, q < t → now' (84 + ((fl (P 1) (P 2) (P 0 3)).length + q)) = nI b ∧ now' (124 + ((fl (P 1) (P 2) (P 0 3)).length + q)) = nI ub) :
    RSn G (PL P b s f v t ub x j) T day wind loft' lost' (lN x) now' ∧ RSj (PL P b s f v t ub x j) jc' jk' jn' jd' now' ∧ RSb G (PL P b s f v t ub x j) (upd bst b (nI f)) (upd br b r) (upd cg b (nI s)) now' ∧ RSl G (PL P b s f v t ub x j) lt' an now' ∧ RSa G (PL P b s f v t ub x j) T (nI (P 0 3 + 1)) ho' du' (upd la (P 0 3) (nI b)) ∧ RSf (PL P b s f v t ub x j) now' ∧ RSi G (PL P b s f v t ub x j) := by
  have g3 : G 0 3 ≤ 10 := hG.1.2.2.2.1
  obtain ⟨⟨hn1, hn2, hn3⟩, ⟨hn4, hn5, hn6⟩, ⟨hn7, hn8, hn9⟩, hn10, hn11⟩ := hn
  obtain ⟨hb1, hb2, hb3⟩ := hb
  obtain ⟨hl1, hl2, hl3⟩ := hl
  obtain ⟨ha1, ha2, ha3⟩ := ha
  obtain ⟨hi1, hi2, hi3, hi4, hi5⟩ := hi
  have hc0 : sm (P 0 3) (fun j => if P 1 j = b then 1 else 0) = 0 := by rw [hi1 b (by omega), if_pos b2]
  have hne : ∀ k, k < P 0 3 → P 1 k ≠ b := fun k hk => cnt_ne hc0 hk
  have hv0 : v ≠ 0 := by rcases v1 with e | e <;> omega
  refine ⟨⟨⟨hn1, n0.trans hn2, hn3⟩, ⟨n1.trans hn4, hn5, hn6⟩, ⟨rfl, n2, x1⟩, n3, n4⟩, hj, ⟨?_, ?_, ?_⟩, ⟨hlt, ?_, ?_⟩, ⟨rfl, ?_, ?_⟩, ?_, ⟨?_, ?_, ?_, ?_, ?_⟩⟩
  · intro q hq
    show upd bst b (nI f) q = nI (if q = b then f else P 6 q) ∧ now' (5 + q) = nI (if q = b then f else P 6 q) ∧ (if q = b then f else P 6 q) < 4
    rw [n5 q hq]
    by_cases e : q = b
    · subst e; rw [pk_us, if_pos rfl, if_pos rfl]; exact ⟨rfl, rfl, f1⟩
    · rw [pk_un e, if_neg e, if_neg e]; exact hb1 q hq
  · intro q hq
    rw [n15 q hq]
    by_cases e : q = b
    · subst e; rw [pk_us, if_pos rfl]
    · rw [pk_un e, if_neg e]; exact hb2 q hq
  · intro q hq
    show upd cg b (nI s) q = nI (if q = b then s else P 5 q) ∧ now' (25 + q) = nI (if q = b then s else P 5 q) ∧ (if q = b then s else P 5 q) < 2 ^ G 0 4
    rw [n25 q hq]
    by_cases e : q = b
    · subst e; rw [pk_us, if_pos rfl, if_pos rfl]; exact ⟨rfl, rfl, s1⟩
    · rw [pk_un e, if_neg e, if_neg e]; exact hb3 q hq
  · intro k hk
    show now' (35 + k) = nI (if s.testBit k then v else P 4 k) ∧ (if s.testBit k then v else P 4 k) < 4
    rw [n35 k hk]
    by_cases e : s.testBit k = true
    · rw [if_pos e, if_pos e]; exact ⟨rfl, by rcases v1 with e | e <;> omega⟩
    · rw [if_neg e, if_neg e]; exact hl2 k hk
  · intro k hk; rw [n59 k hk]; exact hl3 k hk
  · intro k hk
    have hk : k < P 0 3 + 1 := hk
    show upd la (P 0 3) (nI b) k = nI (if k = P 0 3 then b else P 1 k) ∧ (if k = P 0 3 then b else P 1 k) < G 0 3
    by_cases e : k = P 0 3
    · rw [e, pk_us, if_pos rfl]; exact ⟨rfl, b1⟩
    · rw [pk_un e, if_neg e]; exact ha2 k (by omega)
  · intro q hq
    show ho' q = nI (if q = b then t else P 2 q) ∧ (if q = b then t else P 2 q) ≤ 4 ∧ du' q = nI (if q = b then ub else P 3 q) ∧ (if q = b then ub else P 3 q) ≤ T + 9
    refine ⟨hho q hq, ?_, hdu q hq, ?_⟩
    · split
      · exact t1
      · exact (ha3 q hq).2.1
    · split
      · exact u1
      · exact (ha3 q hq).2.2.2
  · have e0 : fl (fun k => if k = P 0 3 then b else P 1 k) (fun q => if q = b then t else P 2 q) (P 0 3 + 1) = fl (P 1) (P 2) (P 0 3) ++ List.replicate t b := by
      have e1 : fl (fun k => if k = P 0 3 then b else P 1 k) (fun q => if q = b then t else P 2 q) (P 0 3) = fl (P 1) (P 2) (P 0 3) := by
        refine fl_congr (fun k hk => ⟨if_neg (by omega), ?_⟩)
        exact if_neg (hne k hk)
      rw [fl_s, e1]
      simp
    show now' 83 = nI (fl (fun k => if k = P 0 3 then b else P 1 k) (fun q => if q = b then t else P 2 q) (P 0 3 + 1)).length ∧ ∀ i q, (fl (fun k => if k = P 0 3 then b else P 1 k) (fun q => if q = b then t else P 2 q) (P 0 3 + 1))[i]? = some q → now' (84 + i) = nI q ∧ now' (124 + i) = nI (if q = b then ub else P 3 q)
    rw [e0]
    refine ⟨by rw [List.length_append, List.length_replicate]; exact n83, fun i q hq => ?_⟩
    by_cases h : i < (fl (P 1) (P 2) (P 0 3)).length
    · rw [List.getElem?_append_left h] at hq
      have hm1 : q ∈ fl (P 1) (P 2) (P 0 3) := List.mem_of_getElem? hq
      rw [fl_mem] at hm1
      obtain ⟨k, k1, k2, k3⟩ := hm1
      rw [(n84 i h).1, (n84 i h).2, if_neg (by rw [k2]; exact hne k k1)]
      exact hf.2 i q hq
    · rw [List.getElem?_append_right (by omega), List.getElem?_replicate] at hq
      by_cases h2 : i - (fl (P 1) (P 2) (P 0 3)).length < t
      · rw [if_pos h2] at hq
        cases hq
        have := n84' _ h2
        rw [show (fl (P 1) (P 2) (P 0 3)).length + (i - (fl (P 1) (P 2) (P 0 3)).length) = i by omega] at this
        rw [if_pos rfl]; exact this
      · rw [if_neg h2] at hq; cases hq
  · intro q hq
    show sm (P 0 3 + 1) (fun k => if (if k = P 0 3 then b else P 1 k) = q then 1 else 0) = if (if q = b then f else P 6 q) = 0 then 0 else 1
    have e1 : sm (P 0 3) (fun k => if (if k = P 0 3 then b else P 1 k) = q then 1 else 0) = sm (P 0 3) (fun j => if P 1 j = q then 1 else 0) := sm_congr (fun k hk => by rw [if_neg (show ¬ k = P 0 3 by omega)])
    rw [sm_s, e1, hi1 q hq, if_pos rfl]
    by_cases e : q = b
    · subst e; rw [if_pos b2, if_pos rfl, if_pos rfl, if_neg f2]
    · have e' : ¬ b = q := fun h => e h.symm
      rw [if_neg e', Nat.add_zero, if_neg e]
  · intro q hq h0
    have h0 : (if q = b then f else P 6 q) = 0 := h0
    show (if q = b then t else P 2 q) = 0 ∧ (if q = b then s else P 5 q) = 0
    by_cases e : q = b
    · rw [if_pos e] at h0; exact absurd h0 f2
    · rw [if_neg e] at h0; rw [if_neg e, if_neg e]; exact hi2 q hq h0
  · intro q hq h0
    have h0 : 0 < (if q = b then t else P 2 q) := h0
    show P 0 0 < (if q = b then ub else P 3 q) ∧ ∀ k, k < G 0 4 → (if q = b then s else P 5 q).testBit k = true → (if s.testBit k then v else P 4 k) = 2
    by_cases e : q = b
    · rw [if_pos e] at h0; rw [if_pos e, if_pos e]
      refine ⟨(t2 h0).1, fun k hk hk2 => ?_⟩
      rw [if_pos hk2]; exact (t2 h0).2
    · rw [if_neg e] at h0; rw [if_neg e, if_neg e]
      obtain ⟨p1, p2⟩ := hi3 q hq h0
      refine ⟨p1, fun k hk hk2 => ?_⟩
      have := p2 k hk hk2
      rw [if_neg (fun h => by have := s2 k hk h; omega)]; exact this
  · intro q q' k hq hq' hqq hk hbit
    have hbit : (if q = b then s else P 5 q).testBit k = true := hbit
    show (if q' = b then s else P 5 q').testBit k = false
    by_cases e : q = b
    · rw [if_pos e] at hbit
      rw [if_neg (fun h => hqq (e.trans h.symm))]
      have h0 := s2 k hk hbit
      cases hx : (P 5 q').testBit k with
      | false => rfl
      | true => exact absurd h0 (hi5 q' k hq' hk hx)
    · rw [if_neg e] at hbit
      by_cases e' : q' = b
      · rw [if_pos e']
        cases hx : s.testBit k with
        | false => rfl
        | true => exact absurd (s2 k hk hx) (hi5 q k hq hk hbit)
      · rw [if_neg e']; exact hi4 q q' k hq hq' hqq hk hbit
  · intro q k hq hk hbit
    have hbit : (if q = b then s else P 5 q).testBit k = true := hbit
    show (if s.testBit k then v else P 4 k) ≠ 0
    by_cases e2 : s.testBit k = true
    · rw [if_pos e2]; exact hv0
    · rw [if_neg e2]
      by_cases e : q = b
      · rw [if_pos e] at hbit; exact absurd hbit e2
      · rw [if_neg e] at hbit; exact hi5 q k hq hk hbit
