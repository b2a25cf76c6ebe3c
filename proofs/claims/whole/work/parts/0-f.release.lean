variable {G : Nat → Nat → Nat} {regions balloons letters loft start seed count turnCount : Int32} {risk distance comeback capacity pigeons weight priority turnFrom turnTo follow land aimCount aim : Nat → Int32} {mLoft mStart mSeed : Int32} {mRegions mRisk mDistance mBack mWinds mNamed mNR mNW mTurns mTF mTT mTW mBalloons mRoom mPigeons mLetters mWeight mPriority : Nat → Int32}
/-- a state out of its rows -/
def mk (s l h u e c q : Nat → Nat) : Nat → Nat → Nat
  | 0 => s
  | 1 => l
  | 2 => h
  | 3 => u
  | 4 => e
  | 5 => c
  | 6 => q
  | _ => fun _ => 0
def sc (d w x c j : Nat) : Nat → Nat
  | 0 => d
  | 1 => w
  | 2 => x
  | 3 => c
  | 4 => j
  | _ => 0
theorem fl_congr {l l' h h' : Nat → Nat} : ∀ {c : Nat}, (∀ j, j < c → l' j = l j ∧ h' (l j) = h (l j)) → fl l' h' c = fl l h c
  | 0, _ => rfl
  | c + 1, H => by
    have := H c (by omega)
    unfold fl
    rw [fl_congr (c := c) (fun j hj => H j (by omega)), this.1, this.2]
theorem cnt_le {c : Nat} {l q : Nat → Nat} {b0 : Nat} (hl : ∀ j, j < c → l j < 10) (h1 : ∀ b, b < 10 → sm c (fun j => if l j = b then 1 else 0) = if q b = 0 then 0 else 1) (hb : b0 < 10) (h0 : q b0 = 0) : c ≤ 9 := by
  have e1 : sm 10 (fun b => sm c (fun j => if l j = b then 1 else 0)) = c := by
    rw [sm_comm]
    have : ∀ j, j < c → sm 10 (fun b => if l j = b then 1 else 0) = 1 := by
      intro j hj
      have e := sm_delta (l j) (fun _ => 1) 10
      rw [if_pos (hl j hj)] at e
      refine Eq.trans (sm_congr (fun k _ => ?_)) e
      by_cases e : l j = k
      · rw [if_pos e, if_pos e.symm]
      · rw [if_neg e, if_neg (fun q => e q.symm)]
    rw [sm_congr this, sm_const]; omega
  have e2 : sm 10 (fun b => sm c (fun j => if l j = b then 1 else 0)) + sm 10 (fun b => if b = b0 then 1 else 0) ≤ sm 10 (fun _ => 1) := by
    rw [← sm_add]
    refine sm_le (fun b hb => ?_)
    rw [h1 b hb]
    by_cases e : b = b0
    · subst e; rw [if_pos h0, if_pos rfl]; omega
    · rw [if_neg e]; split <;> omega
  have e3 := sm_delta b0 (fun _ => 1) 10
  rw [if_pos hb] at e3
  rw [e1, e3, sm_const] at e2
  omega
theorem cnt_ne {c b : Nat} {l : Nat → Nat} (h : sm c (fun j => if l j = b then 1 else 0) = 0) {j : Nat} (hj : j < c) : l j ≠ b := by
  intro e
  have := sm_one (f := fun j => if l j = b then 1 else 0) hj
  rw [h] at this
  simp only [e, if_true] at this
  omega
theorem m_become_2 {N n s v : Nat} {letters : Nat → Int32} (hn : n ≤ 24) (hs : s < 2 ^ 31) (h0 : letters 0 = nI n) : ∀ (m i : Nat) (y y0 : Nat → Int32), i ≤ n → n - i < m → (∀ q, y q = if 35 ≤ q ∧ q < 35 + i ∧ s.testBit (q - 35) = true then nI v else y0 q) → ∃ y', f_X9_become_2 N letters (nI s) (nI v) m (nI i) y = some (nI n, y') ∧ ∀ q, y' q = if 35 ≤ q ∧ q < 35 + n ∧ s.testBit (q - 35) = true then nI v else y0 q := by
  intro m
  induction m with
  | zero => intro i y y0 h1 h2; omega
  | succ m ih =>
    intro i y y0 h1 h2 hy
    rw [f_X9_become_2.eq_2, z_gI0 (by omega) (by omega), z_c0, h0]
    have e1 : nI i + 1 = nI (i + 1) := nI_1 i
    have a35 : (35 : Int32) + nI i = nI (35 + i) := by rw [show (35 : Int32) = nI 35 from rfl, z_add]
    by_cases h : i < n
    · rw [z_has9 hs (by omega), z_ob1]
      by_cases e : s.testBit i = true
      · obtain ⟨y', h3, h4⟩ := ih (i + 1) (upd y (35 + i) (nI v)) y0 (by omega) (by omega) (by
          intro q
          by_cases e2 : q = 35 + i
          · subst e2; rw [pk_us, if_pos ⟨by omega, by omega, by rw [show 35 + i - 35 = i by omega]; exact e⟩]
          · rw [pk_un e2, hy q]
            by_cases e3 : 35 ≤ q ∧ q < 35 + i ∧ s.testBit (q - 35) = true
            · rw [if_pos e3, if_pos ⟨e3.1, by omega, e3.2.2⟩]
            · rw [if_neg e3, if_neg (fun t => e3 ⟨t.1, by omega, t.2.2⟩)])
        refine ⟨y', ?_, h4⟩
        rw [if_pos e, ← h3]
        simp (disch := omega) only [e1, a35, z_le, z_gIx, z_cl, if_neg]
        rw [if_neg (by decide)]
      · obtain ⟨y', h3, h4⟩ := ih (i + 1) (upd y (35 + i) (y (35 + i))) y0 (by omega) (by omega) (by
          intro q
          have hu : upd y (35 + i) (y (35 + i)) q = y q := by
            by_cases e2 : q = 35 + i
            · subst e2; rw [pk_us]
            · rw [pk_un e2]
          rw [hu, hy q]
          by_cases e3 : 35 ≤ q ∧ q < 35 + i ∧ s.testBit (q - 35) = true
          · rw [if_pos e3, if_pos ⟨e3.1, by omega, e3.2.2⟩]
          · rw [if_neg e3, if_neg]
            intro t
            refine e3 ⟨t.1, ?_, t.2.2⟩
            have : q ≠ 35 + i := fun e4 => e (by have := t.2.2; rw [e4, show 35 + i - 35 = i by omega] at this; exact this)
            omega)
        refine ⟨y', ?_, h4⟩
        rw [if_neg e, ← h3]
        simp (disch := omega) only [e1, a35, z_le, z_gIx, z_cl, if_neg]
        rw [if_pos trivial]
    · have : i = n := by omega
      subst this
      exact ⟨y, by simp (disch := omega) only [z_le, if_pos], hy⟩
theorem m_become {N n s v : Nat} {letters : Nat → Int32} (hN : 100 < N) (hn : n ≤ 24) (hs : s < 2 ^ 31) (h0 : letters 0 = nI n) (now : Nat → Int32) : ∃ y', f_X9_become N letters now (nI s) (nI v) = some y' ∧ ∀ q, y' q = if 35 ≤ q ∧ q < 35 + n ∧ s.testBit (q - 35) = true then nI v else now q := by
  obtain ⟨y', h1, h2⟩ := m_become_2 (N := N) (v := v) hn hs h0 N 0 now now (by omega) (by omega) (fun q => by rw [if_neg (by omega)])
  unfold f_X9_become
  exact ⟨y', ob2_of h1, h2⟩
/-- the pigeons that are released -/
theorem e_release {N b r p cb ds L : Nat} {pig com mpig mcom mdis : Nat → Int32} {d0 : Nat} (hb : b < 10) (hr : r < 8) (hp : p ≤ 4) (hL : L ≤ 36) (hd0 : d0 < 2 ^ 30) (hds : ds ≤ 9) (hpig : pig b = nI p) (hcom : com r = nI cb) (hcb : cb ≤ 10) (hmp : mpig b = nI p) (hmc : mcom r = nI cb) (hmd : mdis r = nI ds) : ∀ (m i t x : Nat) (lost : Int32) (ho now : Nat → Int32), i ≤ p → t ≤ i → p - i < m → x < 2 ^ 31 → ho b = nI t → now 0 = nI d0 → now 2 = nI x → now 4 = lost → now 83 = nI (L + t) → (∀ q, q < t → now (84 + (L + q)) = nI b ∧ now (124 + (L + q)) = nI (d0 + ds)) → ∃ t' x' lost' ho' now', t' ≤ p ∧ x' < 2 ^ 31 ∧ f_X6_release_37 N pig com (nI b) (nI r) m (nI i) lost (lN x) ho = some (nI p, lost', lN x', ho') ∧ f_X9_launch_221 N mpig mcom mdis (nI b) (nI r) 3 m (nI i) now = some (nI p, now') ∧ ho' b = nI t' ∧ (∀ q, q ≠ b → ho' q = ho q) ∧ now' 2 = nI x' ∧ now' 4 = lost' ∧ now' 83 = nI (L + t') ∧ (∀ q, q < t' → now' (84 + (L + q)) = nI b ∧ now' (124 + (L + q)) = nI (d0 + ds)) ∧ (∀ q, q ≠ 2 → q ≠ 4 → q ≠ 83 → ¬ (84 + L ≤ q ∧ q < 124) → ¬ (124 + L ≤ q ∧ q < 164) → now' q = now q) := by
  intro m
  induction m with
  | zero => intro i t x lost ho now h1 h2 h3; omega
  | succ m ih =>
    intro i t x lost ho now h1 h2 h3 hx hho h0 hn2 hn4 hn83 hq
    have c3 : ∀ k, gIx (γ := Int32 × Int32 × Int64 × (Nat → Int32)) (nI b) 10 k = k := fun k => z_gIx hb (by omega)
    rw [f_X6_release_37.eq_2, f_X9_launch_221.eq_2, z_gIx hb (by omega), z_gIx (by omega) (by omega), z_cl (by omega), hpig, hmp]
    have e1 : nI i + 1 = nI (i + 1) := nI_1 i
    by_cases h : i < p
    · rw [if_neg (by rw [z_le (by omega) (by omega)]; omega), if_neg (by rw [z_le (by omega) (by omega)]; omega), if_pos rfl, s_draw hx, z_ob2, m_draw hx hn2, z_ob2, z_gIx (i := r) (n := 8) (by omega) (by omega), z_gIx (i := r) (n := 16) (by omega) (by omega), z_cl (n := r) (by omega), hcom, hmc]
      have hdr := dr_lt x
      have hnx := nx_lt x
      simp (disch := omega) only [z_le]
      have c4 : (4 : Int32).toNatClampNeg = 4 := rfl
      have i4 : ∀ k, gIx (γ := Int32 × (Nat → Int32)) 4 213 k = k := fun k => z_gIx (i := 4) (by omega) (by omega)
      have c83 : (83 : Int32).toNatClampNeg = 83 := rfl
      have i83 : ∀ k, gIx (γ := Int32 × (Nat → Int32)) 83 213 k = k := fun k => z_gIx (i := 83) (by omega) (by omega)
      have i0 : ∀ k, gIx (γ := Int32 × (Nat → Int32)) 0 213 k = k := fun k => z_gIx (i := 0) (by omega) (by omega)
      by_cases hle : cb ≤ dr x
      · rw [if_pos hle, if_pos hle, i4, i4, c4]
        have f4 : upd now 2 (nI (nx x)) 4 = lost := by rw [pk_un (by omega), hn4]
        rw [f4]
        obtain ⟨t', x', lost', ho', now', p0, p1, p2, p3, p4, p5, p6, p7, p8, p9, p10⟩ := ih (i + 1) t (nx x) (lost + 1) ho (upd (upd now 2 (nI (nx x))) 4 (lost + 1)) (by omega) (by omega) (by omega) hnx hho (by rw [pk_un (by omega), pk_un (by omega)]; exact h0) (by rw [pk_un (by omega), pk_us]) (by rw [pk_us]) (by rw [pk_un (by omega), pk_un (by omega)]; exact hn83) (fun q hq1 => by
          rw [pk_un (by omega), pk_un (by omega), pk_un (by omega), pk_un (by omega)]; exact hq q hq1)
        refine ⟨t', x', lost', ho', now', p0, p1, by rw [e1]; exact p2, by rw [e1]; exact p3, p4, p5, p6, p7, p8, p9, fun q q1 q2 q3 q4 q5 => ?_⟩
        rw [p10 q q1 q2 q3 q4 q5, pk_un q2, pk_un q1]
      · rw [if_neg hle, if_neg hle]
        have f83 : upd now 2 (nI (nx x)) 83 = nI (L + t) := by rw [pk_un (by omega), hn83]
        have a84 : (84 : Int32) + nI (L + t) = nI (84 + (L + t)) := by rw [show (84 : Int32) = nI 84 from rfl, z_add]
        have a124 : (124 : Int32) + nI (L + t) = nI (124 + (L + t)) := by rw [show (124 : Int32) = nI 124 from rfl, z_add]
        have g83 : upd (upd now 2 (nI (nx x))) (84 + (L + t)) (nI b) 83 = nI (L + t) := by rw [pk_un (by omega), f83]
        have g0 : upd (upd now 2 (nI (nx x))) (84 + (L + t)) (nI b) 0 = nI d0 := by rw [pk_un (by omega), pk_un (by omega), h0]
        have k83 : upd (upd (upd now 2 (nI (nx x))) (84 + (L + t)) (nI b)) (124 + (L + t)) (nI (d0 + ds)) 83 = nI (L + t) := by rw [pk_un (by omega), g83]
        have e83 : nI (L + t) + 1 = nI (L + (t + 1)) := nI_1 (L + t)
        have et : nI t + 1 = nI (t + 1) := nI_1 t
        obtain ⟨t', x', lost', ho', now', p0, p1, p2, p3, p4, p5, p6, p7, p8, p9, p10⟩ := ih (i + 1) (t + 1) (nx x) lost (upd ho b (nI (t + 1))) (upd (upd (upd (upd now 2 (nI (nx x))) (84 + (L + t)) (nI b)) (124 + (L + t)) (nI (d0 + ds))) 83 (nI (L + (t + 1)))) (by omega) (by omega) (by omega) hnx (by rw [pk_us]) (by rw [pk_un (by omega), pk_un (by omega), g0]) (by rw [pk_un (by omega), pk_un (by omega), pk_un (by omega), pk_us]) (by rw [pk_un (by omega), pk_un (by omega), pk_un (by omega), pk_un (by omega)]; exact hn4) (by rw [pk_us]) (fun q hq1 => by
          by_cases e : q = t
          · subst e
            exact ⟨by rw [pk_un (by omega), pk_un (by omega), pk_us], by rw [pk_un (by omega), pk_us]⟩
          · have := hq q (by omega)
            rw [pk_un (by omega), pk_un (by omega), pk_un (by omega), pk_un (by omega), pk_un (by omega), pk_un (by omega), pk_un (by omega), pk_un (by omega)]; exact this)
        refine ⟨t', x', lost', ho', now', p0, p1, ?_, ?_, p4, fun q hq1 => by rw [p5 q hq1, pk_un hq1], p6, p7, p8, p9, fun q q1 q2 q3 q4 q5 => ?_⟩
        · rw [z_gIx hb (by omega), z_gIx hb (by omega), hho, et, e1]; exact p2
        · rw [i83, i83, i83, i83, i0, c83, z_c0, f83, a84, z_gIx (by omega) (by omega), z_gIx (by omega) (by omega), z_cl (by omega), g83, g0, hmd, z_add, a124, z_gIx (by omega) (by omega), z_cl (by omega), k83, e83, e1]
          exact p3
        · rw [p10 q q1 q2 q3 q4 q5, pk_un q3, pk_un (by omega), pk_un (by omega), pk_un q1]
    · have : i = p := by omega
      subst this
      refine ⟨t, x, lost, ho, now, h2, hx, ?_, ?_, hho, fun _ _ => rfl, hn2, hn4, hn83, hq, fun _ _ _ _ _ _ => rfl⟩
      · rw [if_pos (by rw [z_le (by omega) (by omega)]; omega)]
      · rw [if_pos (by rw [z_le (by omega) (by omega)]; omega)]
/-- not landed: no pigeon is released -/
theorem m_rel0 {N b p : Nat} {r st : Int32} {mpig mcom mdis : Nat → Int32} (hN : 10 < N) (hb : b < 10) (hp : p ≤ 4) (hst : st ≠ 3) (hmp : mpig b = nI p) (now : Nat → Int32) : ∃ y, f_X9_launch_221 N mpig mcom mdis (nI b) r st N 0 now = some (y, now) := by
  obtain ⟨n, rfl⟩ : ∃ n, N = n + 1 := ⟨N - 1, by omega⟩
  rw [f_X9_launch_221.eq_2, z_gIx (by omega) (by omega), z_cl (by omega), hmp, if_neg hst]
  by_cases h : nI p ≤ 0
  · exact ⟨_, if_pos h⟩
  · exact ⟨_, if_neg h⟩
