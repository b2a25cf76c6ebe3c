variable {G : Nat → Nat → Nat} {regions balloons letters loft start seed count turnCount : Int32} {risk distance comeback capacity pigeons weight priority turnFrom turnTo follow land aimCount aim : Nat → Int32} {mLoft mStart mSeed : Int32} {mRegions mRisk mDistance mBack mWinds mNamed mNR mNW mTurns mTF mTT mTW mBalloons mRoom mPigeons mLetters mWeight mPriority : Nat → Int32}
variable {G0 : Nat → Nat → Nat}
section
variable {N e : Nat} {c m : Nat → Int32} {S Q K V : Nat → Nat} {st nx tk vv : Int32} {p : Nat}
/-- a turn is told -/
def td (t : Bool) (tf tt : Nat → Nat) (f v t0 : Nat) : Nat → Nat
  | 0 => t0
  | i + 1 => if td t tf tt f v t0 i = 0 then (if t = true ∧ tf i = f ∧ tt i = v then 1 else 0) else 1
theorem td_s (t : Bool) (tf tt : Nat → Nat) (f v t0 i : Nat) : td t tf tt f v t0 (i + 1) = if td t tf tt f v t0 i = 0 then (if t = true ∧ tf i = f ∧ tt i = v then 1 else 0) else 1 := rfl
theorem td_01 {t : Bool} {tf tt : Nat → Nat} {f v t0 : Nat} (h : t0 ≤ 1) : ∀ i, td t tf tt f v t0 i ≤ 1
  | 0 => h
  | i + 1 => by
    rw [td_s]
    by_cases h1 : td t tf tt f v t0 i = 0
    · rw [if_pos h1]; split <;> omega
    · rw [if_neg h1]; omega
theorem td_0 {t : Bool} {tf tt : Nat → Nat} {f v t0 : Nat} : ∀ i, td t tf tt f v t0 i = 0 ↔ (t0 = 0 ∧ ∀ j, j < i → ¬ (t = true ∧ tf j = f ∧ tt j = v))
  | 0 => ⟨fun h => ⟨h, fun j hj => absurd hj (Nat.not_lt_zero j)⟩, fun h => h.1⟩
  | i + 1 => by
    have ih := td_0 (t := t) (tf := tf) (tt := tt) (f := f) (v := v) (t0 := t0) i
    rw [td_s]
    constructor
    · intro h
      by_cases h1 : td t tf tt f v t0 i = 0
      · rw [if_pos h1] at h
        by_cases h2 : t = true ∧ tf i = f ∧ tt i = v
        · rw [if_pos h2] at h; omega
        · refine ⟨(ih.1 h1).1, fun j hj => ?_⟩
          by_cases e : j = i
          · subst e; exact h2
          · exact (ih.1 h1).2 j (by omega)
      · rw [if_neg h1] at h; omega
    · intro h
      rw [if_pos (ih.2 ⟨h.1, fun j hj => h.2 j (by omega)⟩), if_neg (h.2 i (by omega))]
theorem m_t85 {nT f v : Nat} {t : Bool} {mTF mTT mTW : Nat → Int32} {tf tt tw : Nat → Nat} (hT : nT ≤ 30) (hf : f < 2 ^ 31) (ht : (tk = 2) = (t = true)) (hv : t = true → vv = nI v ∧ v < 2 ^ 31) (hr : ∀ k, k < nT → mTF (30 + k) = nI (tf k) ∧ mTT (30 + k) = nI (tt k) ∧ mTW (30 + k) = nI (tw k)) (hb : ∀ k, k < nT → tf k < 2 ^ 31 ∧ tt k < 2 ^ 31) (t0 : Nat) (ht0 : t0 ≤ 1) : ∀ (n i : Nat), i ≤ nT → nT - i < n → f_X9_turnLine_85 N mTF mTT mTW (nI (30 + nT)) (nI f) tk vv n (nI (30 + i)) (nI (td t tf tt f v t0 i)) (nI (tS i tf tw f)) = some (nI (30 + nT), nI (td t tf tt f v t0 nT), nI (tS nT tf tw f)) := by
  intro n
  induction n with
  | zero => intro i h1 h2; omega
  | succ n ih =>
    intro i h1 h2
    rw [f_X9_turnLine_85.eq_2]
    by_cases h : i < nT
    · obtain ⟨r1, r2, r3⟩ := hr i h
      obtain ⟨b1, b2⟩ := hb i h
      have htd := td_01 (t := t) (tf := tf) (tt := tt) (f := f) (v := v) ht0 i
      have e0 : (nI (td t tf tt f v t0 i) = 0) = (td t tf tt f v t0 i = 0) := z_eq (b := 0) (by omega) (by omega)
      have ih := ih (i + 1) (by omega) (by omega)
      have es : tS (i + 1) tf tw f = tS i tf tw f + if tf i = f then tw i else 0 := rfl
      have ef : (nI (tf i) = nI f) = (tf i = f) := z_eq (by omega) (by omega)
      rw [es, td_s] at ih
      rw [if_neg (by rw [z_le (by omega) (by omega)]; omega)]
      simp (disch := omega) only [z_gIx, z_cl, r1, r2, r3, e0, ef, z_add, nI_1, ht, Int32.add_zero]
      rw [show 30 + i + 1 = 30 + (i + 1) by omega]
      by_cases h0 : td t tf tt f v t0 i = 0
      · rw [if_pos h0]
        rw [if_pos h0] at ih
        by_cases h3 : t = true
        · obtain ⟨rfl, hv2⟩ := hv h3
          have ev : (nI (tt i) = nI v) = (tt i = v) := z_eq (by omega) (by omega)
          rw [if_pos h3]
          by_cases h4 : tf i = f
          · simp only [if_pos h4, ev]
            rw [if_pos h4] at ih
            by_cases h5 : tt i = v
            · rw [if_pos h5]; rw [if_pos ⟨h3, h4, h5⟩] at ih; exact ih
            · rw [if_neg h5]; rw [if_neg (fun q => h5 q.2.2)] at ih; exact ih
          · simp only [if_neg h4]
            rw [if_neg h4, if_neg (fun q => h4 q.2.1)] at ih
            exact ih
        · rw [if_neg h3]
          rw [if_neg (show ¬ (t = true ∧ tf i = f ∧ tt i = v) from fun q => h3 q.1)] at ih
          by_cases h4 : tf i = f
          · rw [if_pos h4]; rw [if_pos h4] at ih; exact ih
          · rw [if_neg h4]; rw [if_neg h4] at ih; exact ih
      · rw [if_neg h0]
        rw [if_neg h0] at ih
        by_cases h4 : tf i = f
        · rw [if_pos h4]; rw [if_pos h4] at ih; exact ih
        · rw [if_neg h4]; rw [if_neg h4] at ih; exact ih
    · have : i = nT := by omega
      subst this
      rw [if_pos (by rw [z_le (by omega) (by omega)]; omega)]
theorem tS_up {f t x : Nat} (w : Nat) : tS (G 0 2 + 1) (fun j => if j = G 0 2 then f else G 7 j) (fun j => if j = G 0 2 then x else G 9 j) w = tS (G 0 2) (G 7) (G 9) w + if f = w then x else 0 := by
  unfold tS
  rw [sm_s]
  congr 1
  · exact sm_congr (fun k hk => by
      have e1 : ¬ k = G 0 2 := by omega
      simp only [if_neg e1])
  · simp only [if_pos]
theorem tP_up {f t x : Nat} (w v : Nat) : tP (G 0 2 + 1) (fun j => if j = G 0 2 then f else G 7 j) (fun j => if j = G 0 2 then t else G 8 j) (fun j => if j = G 0 2 then x else G 9 j) w v = tP (G 0 2) (G 7) (G 8) (G 9) w v + if f = w ∧ t = v then x else 0 := by
  unfold tP
  rw [sm_s]
  congr 1
  · exact sm_congr (fun k hk => by
      have e1 : ¬ k = G 0 2 := by omega
      simp only [if_neg e1])
  · simp only [if_pos]
theorem WF_turn {f t x : Nat} (hG : WF G) (hn : G 0 2 < 30) (h1 : f < G 0 1) (h2 : t < G 0 1) (h3 : f ≠ t) (h4 : ∀ j, j < G 0 2 → ¬ (G 7 j = f ∧ G 8 j = t)) (h5 : 1 ≤ x ∧ x ≤ 10 - tS (G 0 2) (G 7) (G 9) f) : WF (gU (gU (gU (gU G 7 (G 0 2) f) 8 (G 0 2) t) 9 (G 0 2) x) 0 2 (G 0 2 + 1)) := by
  obtain ⟨⟨g0, g1, g2, g3, g4, g5, g6, g7⟩, gr, ⟨gna, gn1, gn2, gn3⟩, ⟨gt1, gt2, gt3⟩, gb, gl⟩ := hG
  refine ⟨⟨g0, g1, by show G 0 2 + 1 ≤ 30; omega, g3, g4, g5, g6, g7⟩, gr, ⟨gna, gn1, gn2, gn3⟩, ⟨fun k hk => ?_, fun k j hk hj => ?_, fun w => ?_⟩, gb, gl⟩
  · have hk : k < G 0 2 + 1 := hk
    show (if k = G 0 2 then f else G 7 k) < G 0 1 ∧ (if k = G 0 2 then t else G 8 k) < G 0 1 ∧ (if k = G 0 2 then f else G 7 k) ≠ (if k = G 0 2 then t else G 8 k) ∧ 1 ≤ (if k = G 0 2 then x else G 9 k) ∧ (if k = G 0 2 then x else G 9 k) ≤ 10
    by_cases e1 : k = G 0 2
    · simp only [if_pos e1]; omega
    · simp only [if_neg e1]; exact gt1 k (by omega)
  · have hk : k < G 0 2 + 1 := hk
    show ¬ ((if k = G 0 2 then f else G 7 k) = (if j = G 0 2 then f else G 7 j) ∧ (if k = G 0 2 then t else G 8 k) = (if j = G 0 2 then t else G 8 j))
    rw [if_neg (show ¬ j = G 0 2 by omega), if_neg (show ¬ j = G 0 2 by omega)]
    by_cases e1 : k = G 0 2
    · simp only [if_pos e1]
      exact fun q => h4 j (by omega) ⟨q.1.symm, q.2.symm⟩
    · simp only [if_neg e1]; exact gt2 k j (by omega) hj
  · show tS (G 0 2 + 1) (fun j => if j = G 0 2 then f else G 7 j) (fun j => if j = G 0 2 then x else G 9 j) w ≤ 10
    rw [tS_up (t := t)]
    have := gt3 w
    by_cases e1 : f = w
    · rw [if_pos e1]; rw [← e1] at this ⊢; omega
    · rw [if_neg e1]; omega
theorem DC_turn {f t x : Nat} (hG : WF G) (h1 : f < G 0 1) (h2 : t < G 0 1) (h3 : f ≠ t) (h5 : 1 ≤ x ∧ x ≤ 10 - tS (G 0 2) (G 7) (G 9) f) (hc : DC G regions balloons letters loft start seed count turnCount risk distance comeback capacity pigeons weight priority turnFrom turnTo follow land aimCount aim) : DC (gU (gU (gU (gU G 7 (G 0 2) f) 8 (G 0 2) t) 9 (G 0 2) x) 0 2 (G 0 2 + 1)) regions balloons letters loft start seed count (nI (G 0 2 + 1)) risk distance comeback capacity pigeons weight priority (upd turnFrom (G 0 2) (nI f)) (upd turnTo (G 0 2) (nI t)) (upd (upd follow (f * 6 + t) (nI (tF (G 0 2) (G 7) (G 8) (G 9) f t + x))) (f * 6 + f) (nI (tF (G 0 2) (G 7) (G 8) (G 9) f f - x))) land aimCount aim := by
  obtain ⟨⟨g0, g1, g2, g3, g4, g5, g6, g7⟩, gr, ⟨gna, gn1, gn2, gn3⟩, ⟨gt1, gt2, gt3⟩, gb, gl⟩ := hG
  obtain ⟨⟨⟨c1, c2, c3, c4, c5, c6, c7, c8⟩, cr, cb, cl, ct, cf, cla, cac, cai⟩, cx⟩ := hc
  have hx : ∀ w v, w < G 0 1 → v < 6 → upd (upd follow (f * 6 + t) (nI (tF (G 0 2) (G 7) (G 8) (G 9) f t + x))) (f * 6 + f) (nI (tF (G 0 2) (G 7) (G 8) (G 9) f f - x)) (w * 6 + v) = nI (tF (G 0 2 + 1) (fun j => if j = G 0 2 then f else G 7 j) (fun j => if j = G 0 2 then t else G 8 j) (fun j => if j = G 0 2 then x else G 9 j) w v) := by
    intro w v hw hv
    have e0 : tF (G 0 2 + 1) (fun j => if j = G 0 2 then f else G 7 j) (fun j => if j = G 0 2 then t else G 8 j) (fun j => if j = G 0 2 then x else G 9 j) w v = (if w = v then 10 - (tS (G 0 2) (G 7) (G 9) w + if f = w then x else 0) else 0) + (tP (G 0 2) (G 7) (G 8) (G 9) w v + if f = w ∧ t = v then x else 0) := by
      unfold tF; rw [tS_up (t := t), tP_up]
    rw [e0]
    have h6 := gt3 f
    by_cases e1 : w = f
    · subst e1
      by_cases e2 : v = w
      · subst e2
        rw [pk_us]
        unfold tF
        rw [if_pos rfl, if_pos rfl, if_pos rfl, if_neg (fun q => h3 q.2.symm)]
        congr 1; omega
      · rw [pk_un (by omega)]
        by_cases e3 : v = t
        · subst e3
          rw [pk_us]
          unfold tF
          rw [if_neg (fun q => e2 q.symm), if_neg (fun q => e2 q.symm), if_pos ⟨rfl, rfl⟩]
          congr 1; omega
        · rw [pk_un (by omega), cx w v hw hv]
          unfold tF
          rw [if_neg (fun q => e2 q.symm), if_neg (fun q => e2 q.symm), if_neg (fun q => e3 q.2.symm)]
          rfl
    · rw [pk_un (by omega), pk_un (by omega), cx w v hw hv]
      unfold tF
      rw [if_neg (show ¬ f = w from fun q => e1 q.symm), if_neg (show ¬ (f = w ∧ t = v) from fun q => e1 q.1.symm)]
      rfl
  refine ⟨⟨⟨c1, c2, c3, c4, c5, c6, c7, rfl⟩, cr, cb, cl, fun k hk => ?_, fun w v hw hv => hx w v hw (by have hv : v < G 0 1 := hv; omega), cla, cac, cai⟩, hx⟩
  have hk : k < G 0 2 + 1 := hk
  show upd turnFrom (G 0 2) (nI f) k = nI (if k = G 0 2 then f else G 7 k) ∧ upd turnTo (G 0 2) (nI t) k = nI (if k = G 0 2 then t else G 8 k)
  by_cases e1 : k = G 0 2
  · simp only [if_pos e1]; rw [e1]; exact ⟨pk_us, pk_us⟩
  · simp only [if_neg e1, pk_un e1]; exact ct k (by omega)
theorem DM_turn {f t x : Nat} (hm : DM G mRegions mRisk mDistance mBack mWinds mNamed mNR mNW mTurns mTF mTT mTW mBalloons mRoom mPigeons mLetters mWeight mPriority) : DM (gU (gU (gU (gU G 7 (G 0 2) f) 8 (G 0 2) t) 9 (G 0 2) x) 0 2 (G 0 2 + 1)) mRegions mRisk mDistance mBack mWinds mNamed mNR mNW (upd mTurns 1 (nI (G 0 2 + 1))) (upd mTF (30 + G 0 2) (nI f)) (upd mTT (30 + G 0 2) (nI t)) (upd mTW (30 + G 0 2) (nI x)) mBalloons mRoom mPigeons mLetters mWeight mPriority := by
  obtain ⟨⟨m0, m1, m2, m3, m4⟩, mr, mb, ml, mt, mna, mnr⟩ := hm
  refine ⟨⟨m0, m1, pk_us, m3, m4⟩, mr, mb, ml, fun k hk => ?_, mna, mnr⟩
  have hk : k < G 0 2 + 1 := hk
  show upd mTF (30 + G 0 2) (nI f) (30 + k) = nI (if k = G 0 2 then f else G 7 k) ∧ upd mTT (30 + G 0 2) (nI t) (30 + k) = nI (if k = G 0 2 then t else G 8 k) ∧ upd mTW (30 + G 0 2) (nI x) (30 + k) = nI (if k = G 0 2 then x else G 9 k)
  by_cases e1 : k = G 0 2
  · simp only [if_pos e1]; rw [e1]; exact ⟨pk_us, pk_us, pk_us⟩
  · have e2 : 30 + k ≠ 30 + G 0 2 := by omega
    simp only [if_neg e1, pk_un e2]; exact mt k (by omega)
theorem tP_0 {w v : Nat} (hG : WF G) : tP (G 0 2) (G 7) (G 8) (G 9) w v = 0 ↔ ∀ j, j < G 0 2 → ¬ (G 7 j = w ∧ G 8 j = v) := by
  obtain ⟨⟨g0, g1, g2, g3, g4, g5, g6, g7⟩, gr, ⟨gna, gn1, gn2, gn3⟩, ⟨gt1, gt2, gt3⟩, gb, gl⟩ := hG
  constructor
  · intro h j hj hq
    have h1 := sm_one (f := fun k => if G 7 k = w ∧ G 8 k = v then G 9 k else 0) hj
    have h2 : sm (G 0 2) (fun k => if G 7 k = w ∧ G 8 k = v then G 9 k else 0) = 0 := h
    rw [h2] at h1
    simp only [if_pos hq] at h1
    have := (gt1 j hj).2.2.2.1
    omega
  · intro h
    exact (sm_congr (fun k hk => if_neg (h k hk))).trans (sm_zero _)
theorem l_turn (hN : 3000 < N) (he : e ≤ 900) (hL : LX N e c m S Q K V) (hG0 : WF G0) (hG : WF G) (hc : DC G regions balloons letters loft start seed count turnCount risk distance comeback capacity pigeons weight priority turnFrom turnTo follow land aimCount aim) (hm : DM G mRegions mRisk mDistance mBack mWinds mNamed mNR mNW mTurns mTF mTT mTW mBalloons mRoom mPigeons mLetters mWeight mPriority) (h0 : RGm G0 mLoft mStart mSeed mRegions mRisk mDistance mBack mWinds mNamed mNR mNW mTurns mTF mTT mTW mBalloons mRoom mPigeons mLetters mWeight mPriority) (hp : p ≤ e) (ht : TM S Q K V p st nx tk vv) (kind value code number ea : Int32) :
    (∃ ka sc pc kc vc nu nst nnx ntk nvv x1 x2 x3 x4 y1 y2 y3 y4, ka ≠ 0 ∧ f_X4_readTurn N count turnCount (nI (S p)) (nI e) (nI (Q p)) kind value code c follow turnFrom turnTo = some (0, x1, sc, pc, kc, vc, ka, x2, x3, x4) ∧ f_X9_turnLine N (nI e) st nx tk vv 0 ea number mTurns m mWinds mTF mTT mTW = some (0, nst, nnx, ntk, nvv, ka, sc, nu, y1, y2, y3, y4) ∧ RGm G0 mLoft mStart mSeed mRegions mRisk mDistance mBack mWinds mNamed mNR mNW y1 y2 y3 y4 mBalloons mRoom mPigeons mLetters mWeight mPriority) ∨
    (∃ q sc vc nu nst nnx ntk nvv x1 x2 x3 x4 y1 y2 y3 y4, p < q ∧ q ≤ e ∧ f_X4_readTurn N count turnCount (nI (S p)) (nI e) (nI (Q p)) kind value code c follow turnFrom turnTo = some (1, x1, sc, nI q, 2, vc, code, x2, x3, x4) ∧ f_X9_turnLine N (nI e) st nx tk vv 0 ea number mTurns m mWinds mTF mTT mTW = some (1, nst, nnx, ntk, nvv, 0, ea, nu, y1, y2, y3, y4) ∧ TM S Q K V q nst nnx ntk nvv ∧ RGm G0 mLoft mStart mSeed mRegions mRisk mDistance mBack mWinds mNamed mNR mNW y1 y2 y3 y4 mBalloons mRoom mPigeons mLetters mWeight mPriority ∧ ∃ G', WF G' ∧ DC G' regions balloons letters loft start seed count x1 risk distance comeback capacity pigeons weight priority x3 x4 x2 land aimCount aim ∧ DM G' mRegions mRisk mDistance mBack mWinds mNamed mNR mNW y1 y2 y3 y4 mBalloons mRoom mPigeons mLetters mWeight mPriority ∧ G' 0 5 = G 0 5 ∧ G' 0 6 = G 0 6 ∧ G' 0 7 = G 0 7 ∧ G' 0 1 = G 0 1) := by
  obtain ⟨⟨⟨c1, c2, c3, c4, c5, c6, c7, c8⟩, _⟩, cx⟩ := id hc
  obtain ⟨⟨m0, m1, m2, m3, m4⟩, mr, mb, ml, mt, mna, mnr⟩ := id hm
  obtain ⟨⟨g0, g1, g2, g3, g4, g5, g6, g7⟩, gr, ⟨gna, gn1, gn2, gn3⟩, ⟨gt1, gt2, gt3⟩, gb, gl⟩ := id hG
  obtain ⟨⟨f1, f2, f3, f4, f5, f6⟩, _⟩ := hL p hp
  obtain ⟨⟨f1a, f2a, f3a, f4a, f5a, f6a⟩, _⟩ := hL (Q p) f3
  obtain ⟨⟨f1b, f2b, f3b, f4b, f5b, f6b⟩, _⟩ := hL (Q (Q p)) f3a
  obtain ⟨⟨f1c, f2c, f3c, f4c, f5c, f6c⟩, _⟩ := hL (Q (Q (Q p))) f3b
  unfold f_X4_readTurn f_X9_turnLine
  rw [z_gI1, z_gI1, z_c1, m2, c8, c7, show (30 : Int32) = nI 30 from rfl, z_add]
  by_cases hn : G 0 2 < 30
  · rw [if_pos (show nI (G 0 2) < nI 30 by rw [z_lt (by omega) (by omega)]; exact hn), if_neg (show ¬ nI 30 ≤ nI (G 0 2) by rw [z_le (by omega) (by omega)]; omega)]
    unfold f_X9_turnLine_j27
    obtain ⟨w0, o1, t1⟩ := x_open hL hp ht ea
    rw [o1, z_ob7, if_neg (by decide), z_gI1, z_c1, m1]
    rcases x_num hL he f3 t1 kind value code number ea 0 (nI (G 0 1) - 1) with ⟨k1, lo1, hi1, cr1, s1, n1, d1, u1, t2, mr1⟩ | ⟨ka, v', hka, _, cr, mr⟩
    rotate_left
    · left
      rw [cr, z_ob6, if_pos rfl, mr, z_ob8, if_pos rfl]
      exact ⟨ka, _, _, _, _, _, _, _, _, _, _, _, _, _, _, _, _, _, hka, rfl, rfl, h0⟩
    have v1 := f6a k1
    have b1 : V (Q p) < G 0 1 := b_lt (by omega) (by omega) hi1
    rw [cr1, z_ob6, if_neg (by decide), mr1, z_ob8, if_neg (by decide)]
    generalize hf : V (Q p) = f at b1 v1 ⊢
    -- what the model does with the second number
    have hj : ∀ (k0 : Nat) (hk0 : k0 ≤ 1), f_X9_turnLine_85 N mTF mTT mTW (nI (30 + G 0 2)) (nI f) d1 u1 N 30 (nI k0) 0 = some (nI (30 + G 0 2), nI (td (K (Q (Q p)) == 2) (G 7) (G 8) f (V (Q (Q p))) k0 (G 0 2)), nI (tS (G 0 2) (G 7) (G 9) f)) := by
      intro k0 hk0
      obtain ⟨_, _, d2, u2⟩ := t2
      have hd : (d1 = 2) = ((K (Q (Q p)) == 2) = true) := by
        rw [d2, show (nI (K (Q (Q p))) = 2) = (K (Q (Q p)) = 2) from z_eq (b := 2) (by omega) (by omega)]; simp
      exact m_t85 (N := N) (nT := G 0 2) (f := f) (v := V (Q (Q p))) (t := K (Q (Q p)) == 2) (tf := G 7) (tt := G 8) (tw := G 9) g2 (by omega) hd (fun q => by
        have q : K (Q (Q p)) = 2 := by simpa using q
        have := f6b q
        exact ⟨u2 q, by omega⟩) mt (fun k hk => by have := gt1 k hk; omega) k0 hk0 N 0 (Nat.zero_le _) (by omega)
    have hj79 : ∀ (k0 : Nat) (hk0 : k0 ≤ 1), f_X9_turnLine_j79 N (nI e) mTurns m mWinds mTF mTT mTW (nI (30 + G 0 2)) (nI f) 0 s1 n1 d1 u1 0 ea (nI f) (nI k0) = if td (K (Q (Q p)) == 2) (G 7) (G 8) f (V (Q (Q p))) k0 (G 0 2) = 0 then (ob8 (f_X9_takes N (nI e) s1 n1 d1 u1 0 ea (nI f) m 0 (nI (G 0 1) - 1)) (fun r_18 start_19 next__20 token_21 value_22 error_23 errorAt_24 number_25 => if r_18 = 0 then (some (0, start_19, next__20, token_21, value_22, error_23, errorAt_24, number_25, mTurns, mTF, mTT, mTW)) else ((ob8 (f_X9_takes N (nI e) start_19 next__20 token_21 value_22 error_23 errorAt_24 number_25 m 1 (nI (10 - tS (G 0 2) (G 7) (G 9) f))) (fun r_27 start_28 next__29 token_30 value_31 error_32 errorAt_33 number_34 => if r_27 = 0 then (some (0, start_28, next__29, token_30, value_31, error_32, errorAt_33, number_34, mTurns, (upd mTF (30 + G 0 2) (nI f)), (upd mTT (30 + G 0 2) number_25), mTW)) else (some (1, start_28, next__29, token_30, value_31, error_32, errorAt_33, number_34, (upd mTurns 1 (nI (G 0 2 + 1))), (upd mTF (30 + G 0 2) (nI f)), (upd mTT (30 + G 0 2) number_25), (upd mTW (30 + G 0 2) number_34)))))))) else some (0, s1, n1, d1, u1, 2, s1, nI f, mTurns, mTF, mTT, mTW) := by
      intro k0 hk0
      have htd := td_01 (t := K (Q (Q p)) == 2) (tf := G 7) (tt := G 8) (f := f) (v := V (Q (Q p))) hk0 (G 0 2)
      unfold f_X9_turnLine_j79
      have e9 : (nI (td (K (Q (Q p)) == 2) (G 7) (G 8) f (V (Q (Q p))) k0 (G 0 2)) = 0) = (td (K (Q (Q p)) == 2) (G 7) (G 8) f (V (Q (Q p))) k0 (G 0 2) = 0) := z_eq (b := 0) (by omega) (by omega)
      rw [hj k0 hk0, z_ob3]
      simp only [e9]
      by_cases h9 : td (K (Q (Q p)) == 2) (G 7) (G 8) f (V (Q (Q p))) k0 (G 0 2) = 0
      · have hg := gt3 f
        rw [if_pos h9, if_pos h9]
        simp (disch := omega) only [z_gI1, z_c1, m1, m2, nI_1, z_gIx, z_cl, show (10 : Int32) = nI 10 from rfl, z_sub]
      · rw [if_neg h9, if_neg h9]
        unfold f_X9_fails
        rw [if_pos rfl, z_ob3]
    have hmod : ∀ (k0 : Nat) (hk0 : k0 = if K (Q (Q p)) = 2 ∧ V (Q (Q p)) = f then 1 else 0), (if d1 = 2 then if u1 = nI f then f_X9_turnLine_j79 N (nI e) mTurns m mWinds mTF mTT mTW (nI (30 + G 0 2)) (nI f) 0 s1 n1 d1 u1 0 ea (nI f) 1 else f_X9_turnLine_j78 N (nI e) mTurns m mWinds mTF mTT mTW (nI (30 + G 0 2)) (nI f) 0 s1 n1 d1 u1 0 ea (nI f) else f_X9_turnLine_j78 N (nI e) mTurns m mWinds mTF mTT mTW (nI (30 + G 0 2)) (nI f) 0 s1 n1 d1 u1 0 ea (nI f)) = f_X9_turnLine_j79 N (nI e) mTurns m mWinds mTF mTT mTW (nI (30 + G 0 2)) (nI f) 0 s1 n1 d1 u1 0 ea (nI f) (nI k0) := by
      intro k0 hk0
      obtain ⟨_, _, d2, u2⟩ := t2
      have hd : (d1 = 2) = (K (Q (Q p)) = 2) := by
        rw [d2]; exact z_eq (b := 2) (by omega) (by omega)
      unfold f_X9_turnLine_j78
      simp only [hd]
      by_cases h2 : K (Q (Q p)) = 2
      · have := f6b h2
        have e8 : (u1 = nI f) = (V (Q (Q p)) = f) := by rw [u2 h2]; exact z_eq (by omega) (by omega)
        simp only [if_pos h2, e8]
        by_cases h3 : V (Q (Q p)) = f
        · rw [if_pos ⟨h2, h3⟩] at hk0; rw [if_pos h3, hk0]; rfl
        · rw [if_neg (fun q => h3 q.2)] at hk0; rw [if_neg h3, hk0]; rfl
      · rw [if_neg (fun q => h2 q.1)] at hk0; rw [if_neg h2, hk0]; rfl
    rw [hmod _ rfl, hj79 _ (by split <;> omega)]
    have hs1 : s1 = nI (S (Q (Q p))) := t2.1
    rcases x_num hL he f3a t2 2 (nI f) code (nI f) ea 0 (nI (G 0 1) - 1) with ⟨k2, lo2, hi2, cr2, s2, n2, d2, u2, t3, mr2⟩ | ⟨ka, v', hka, hwhy, cr, mr⟩
    rotate_left
    · left
      -- not a number, or out of range: it isn't told either
      have h9 : td (K (Q (Q p)) == 2) (G 7) (G 8) f (V (Q (Q p))) (if K (Q (Q p)) = 2 ∧ V (Q (Q p)) = f then 1 else 0) (G 0 2) = 0 := by
        refine (td_0 _).2 ⟨?_, fun j hj hq => ?_⟩
        · rw [if_neg]
          intro q
          have h6 := f6b q.1
          rcases hwhy q.1 with h | h
          · exact nI_pos (by omega) h
          · have := b_nlt (by omega) (by omega) h; omega
        · have q1 : K (Q (Q p)) = 2 := by simpa using hq.1
          have h6 := f6b q1
          rcases hwhy q1 with h | h
          · exact nI_pos (by omega) h
          · have h7 := b_nlt (by omega) (by omega) h
            have h8 := (gt1 j hj).2.1
            omega
      rw [cr, z_ob6, if_pos rfl, if_pos h9, mr, z_ob8, if_pos rfl]
      exact ⟨ka, _, _, _, _, _, _, _, _, _, _, _, _, _, _, _, _, _, hka, rfl, rfl, h0⟩
    have v2 := f6b k2
    have b2 : V (Q (Q p)) < G 0 1 := b_lt (by omega) (by omega) hi2
    have kb : (K (Q (Q p)) == 2) = true := by simpa using k2
    rw [cr2, z_ob6, if_neg (by decide)]
    generalize hg : V (Q (Q p)) = g at b2 v2 mr2 ⊢
    have e7 : (nI f = nI g) = (f = g) := z_eq (by omega) (by omega)
    have hg3 := gt3 f
    have ptP := tP_le (nT := G 0 2) (tf := G 7) (tt := G 8) (tw := G 9) f g
    have ptF := tF_le (tt := G 8) (v := f) hg3
    have tff : tP (G 0 2) (G 7) (G 8) (G 9) f f = 0 := (tP_0 hG).2 (fun j hj q => (gt1 j hj).2.2.1 (q.1.trans q.2.symm))
    have eff : tF (G 0 2) (G 7) (G 8) (G 9) f f = 10 - tS (G 0 2) (G 7) (G 9) f := by unfold tF; rw [if_pos rfl, tff]; rfl
    by_cases hfg : f = g
    · left
      have h9 : ¬ td (K (Q (Q p)) == 2) (G 7) (G 8) f g (if K (Q (Q p)) = 2 ∧ g = f then 1 else 0) (G 0 2) = 0 := by
        intro q
        have := ((td_0 _).1 q).1
        rw [if_pos ⟨k2, hfg.symm⟩] at this
        cases this
      unfold f_X4_fail
      rw [if_pos (show nI f = nI g by rw [hfg]), if_neg h9, z_ob2, hs1]
      exact ⟨2, _, _, _, _, _, _, _, _, _, _, _, _, _, _, _, _, _, by decide, rfl, rfl, h0⟩
    · rw [if_neg (show ¬ nI f = nI g by rw [e7]; exact hfg)]
      have efg : tF (G 0 2) (G 7) (G 8) (G 9) f g = tP (G 0 2) (G 7) (G 8) (G 9) f g := by unfold tF; rw [if_neg hfg, Nat.zero_add]
      have ef1 : f_X7_followTenths N (nI (G 0 1)) follow (nI f) (nI g) = some (nI (tP (G 0 2) (G 7) (G 8) (G 9) f g)) := by
        unfold f_X7_followTenths
        rw [if_neg (nI_pos (by omega)), if_neg (by rw [z_le (by omega) (by omega)]; omega), if_neg (nI_pos (by omega)), if_pos (by rw [z_lt (by omega) (by omega)]; omega), show (6 : Int32) = nI 6 from rfl, z_mul, z_add, z_gIx (by omega) (by omega), z_cl (by omega), cx f g b1 (by omega), efg]
      have ef2 : f_X7_followTenths N (nI (G 0 1)) follow (nI f) (nI f) = some (nI (10 - tS (G 0 2) (G 7) (G 9) f)) := by
        unfold f_X7_followTenths
        rw [if_neg (nI_pos (by omega)), if_neg (by rw [z_le (by omega) (by omega)]; omega), if_neg (nI_pos (by omega)), if_pos (by rw [z_lt (by omega) (by omega)]; omega), show (6 : Int32) = nI 6 from rfl, z_mul, z_add, z_gIx (by omega) (by omega), z_cl (by omega), cx f f b1 (by omega), eff]
      have e6 : (nI (tP (G 0 2) (G 7) (G 8) (G 9) f g) ≤ 0) = (tP (G 0 2) (G 7) (G 8) (G 9) f g ≤ 0) := z_le (b := 0) (by omega) (by omega)
      rw [ef1, z_ob1, ef2, z_ob1]
      by_cases htl : tP (G 0 2) (G 7) (G 8) (G 9) f g ≤ 0
      · have h4 := (tP_0 hG).1 (Nat.le_zero.mp htl)
        have h9 : td (K (Q (Q p)) == 2) (G 7) (G 8) f g (if K (Q (Q p)) = 2 ∧ g = f then 1 else 0) (G 0 2) = 0 := by
          refine (td_0 _).2 ⟨if_neg (fun q => hfg q.2.symm), fun j hj hq => h4 j hj hq.2⟩
        rw [if_pos (show nI (tP (G 0 2) (G 7) (G 8) (G 9) f g) ≤ 0 by rw [e6]; exact htl), if_pos h9, mr2, z_ob8, if_neg (by decide)]
        rcases x_num hL he f3b t3 2 (nI g) code (nI g) ea 1 (nI (10 - tS (G 0 2) (G 7) (G 9) f)) with ⟨k3, lo3, hi3, cr3, s3, n3, d3, u3, t4, mr3⟩ | ⟨ka, v', hka, _, cr, mr⟩
        rotate_left
        · left
          rw [cr, z_ob6, if_pos rfl, mr, z_ob8, if_pos rfl]
          exact ⟨ka, _, _, _, _, _, _, _, _, _, _, _, _, _, _, _, _, _, hka, rfl, rfl, (RGm_lo hG0 h0 (fun _ _ => rfl) (fun _ _ => rfl) (fun _ _ => rfl) (fun _ _ => rfl) (fun _ _ => rfl) (fun _ _ => rfl) (fun _ _ => rfl) (fun _ _ => rfl) (fun _ _ => rfl) (fun k hk => pk_un (by omega)) (fun k hk => pk_un (by omega)) (fun _ _ => rfl) (fun _ _ => rfl) (fun _ _ => rfl) (fun _ _ => rfl) (fun _ _ => rfl) (fun _ _ => rfl) (fun _ _ => rfl))⟩
        right
        have v3 := f6c k3
        have hx1 : V (Q (Q (Q p))) ≤ 10 - tS (G 0 2) (G 7) (G 9) f := b_le (by omega) (by omega) hi3
        have hx2 : 1 ≤ V (Q (Q (Q p))) := b_ge (k := 1) (by omega) (by omega) lo3
        rw [cr3, z_ob6, if_neg (by decide), mr3, z_ob8, if_neg (by decide)]
        have ea1 : f_X7_addTurn N (nI (G 0 1)) (nI (G 0 2)) turnFrom turnTo follow (nI f) (nI g) (nI (V (Q (Q (Q p))))) = some (nI (G 0 2 + 1), upd turnFrom (G 0 2) (nI f), upd turnTo (G 0 2) (nI g), upd (upd follow (f * 6 + g) (nI (tF (G 0 2) (G 7) (G 8) (G 9) f g + V (Q (Q (Q p)))))) (f * 6 + f) (nI (tF (G 0 2) (G 7) (G 8) (G 9) f f - V (Q (Q (Q p)))))) := by
          have hno : ∀ x, x < G 0 1 → ¬ (nI x < 0 ∨ nI (G 0 1) ≤ nI x) := by
            intro x hx q
            rcases q with q | q
            · exact nI_pos (by omega) q
            · rw [z_le (by omega) (by omega)] at q; omega
          unfold f_X7_addTurn
          rw [z_has7, z_ob1, if_neg (hno f b1), if_neg (by decide), z_has7, z_ob1, if_neg (hno g b2), if_neg (by decide), show (30 : Int32) = nI 30 from rfl, if_neg (by rw [z_le (by omega) (by omega)]; omega), show (6 : Int32) = nI 6 from rfl]
          simp only [z_mul, z_add]
          simp (disch := omega) only [z_gIx, z_cl, nI_1]
          rw [cx f g b1 (by omega), pk_un (show f * 6 + f ≠ f * 6 + g by omega), cx f f b1 (by omega), z_add, z_sub (by rw [eff]; omega)]
        rw [ea1, z_ob4]
        refine ⟨Q (Q (Q (Q p))), _, _, _, _, _, _, _, _, _, _, _, _, _, _, _, ?_, f3c, rfl, rfl, t4, (RGm_lo hG0 h0 (fun _ _ => rfl) (fun _ _ => rfl) (fun _ _ => rfl) (fun _ _ => rfl) (fun _ _ => rfl) (fun _ _ => rfl) (fun _ _ => rfl) (fun _ _ => rfl) (fun k hk => pk_un (by omega)) (fun k hk => pk_un (by omega)) (fun k hk => pk_un (by omega)) (fun k hk => pk_un (by omega)) (fun _ _ => rfl) (fun _ _ => rfl) (fun _ _ => rfl) (fun _ _ => rfl) (fun _ _ => rfl) (fun _ _ => rfl)), _, WF_turn hG hn b1 b2 hfg h4 ⟨hx2, hx1⟩, DC_turn hG b1 b2 hfg ⟨hx2, hx1⟩ (c7 ▸ hc), DM_turn hm, rfl, rfl, rfl, rfl⟩
        have := f5a (by omega)
        omega
      · left
        have h9 : ¬ td (K (Q (Q p)) == 2) (G 7) (G 8) f g (if K (Q (Q p)) = 2 ∧ g = f then 1 else 0) (G 0 2) = 0 := by
          intro q
          have h4 := ((td_0 _).1 q).2
          exact htl (Nat.le_zero.mpr ((tP_0 hG).2 (fun j hj hq => h4 j hj ⟨kb, hq⟩)))
        unfold f_X4_fail
        rw [if_neg (show ¬ nI (tP (G 0 2) (G 7) (G 8) (G 9) f g) ≤ 0 by rw [e6]; exact htl), if_neg h9, z_ob2, hs1]
        exact ⟨2, _, _, _, _, _, _, _, _, _, _, _, _, _, _, _, _, _, by decide, rfl, rfl, h0⟩
  · left
    rw [if_neg (show ¬ nI (G 0 2) < nI 30 by rw [z_lt (by omega) (by omega)]; exact hn), if_pos (show nI 30 ≤ nI (G 0 2) by rw [z_le (by omega) (by omega)]; omega)]
    unfold f_X9_turnLine_j27 f_X4_fail
    rw [x_shut ht ea, z_ob7, if_pos rfl, z_ob2]
    exact ⟨4, _, _, _, _, _, _, _, _, _, _, _, _, _, _, _, _, _, by decide, rfl, rfl, h0⟩
end
