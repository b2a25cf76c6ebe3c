variable {G : Nat → Nat → Nat} {regions balloons letters loft start seed count turnCount : Int32} {risk distance comeback capacity pigeons weight priority turnFrom turnTo follow land aimCount aim : Nat → Int32} {mLoft mStart mSeed : Int32} {mRegions mRisk mDistance mBack mWinds mNamed mNR mNW mTurns mTF mTT mTW mBalloons mRoom mPigeons mLetters mWeight mPriority : Nat → Int32}
theorem z_gIe {γ : Type} {x : Int32} {i n : Nat} {k : Option γ} (e : x = nI i) (h : i < n) (hn : n < 2 ^ 31) : gIx x n k = k := by subst e; exact z_gIx h hn
theorem m_lift3 {N h : Nat} {a0 : Nat → Int32} (hh : h ≤ 100) : ∀ (n i : Nat) (a : Nat → Int32), i ≤ h → h - i < n → (∀ k, k < i → a k = a0 (h + k)) → (∀ k, h ≤ k → a k = a0 k) → ∃ a', f_X9_copies_al_3 N (nI h) 0 (nI h) (2 * h) n (nI i) a = some (nI h, a') ∧ ∀ k, k < h → a' k = a0 (h + k) := by
  intro n
  induction n with
  | zero => intro i a h1 h2; omega
  | succ n ih =>
    intro i a h1 h2 h3 h4
    rw [f_X9_copies_al_3.eq_2]
    by_cases h5 : i < h
    · rw [if_neg (by rw [z_le (by omega) (by omega)]; omega), z_add, show (0 : Int32) + nI i = nI i from Int32.zero_add _, z_gIx (i := h + i) (by omega) (by omega), z_gIx (i := i) (by omega) (by omega), z_cl (n := h + i) (by omega), z_cl (n := i) (by omega), nI_1]
      refine ih (i + 1) _ (by omega) (by omega) (fun k hk => ?_) (fun k hk => ?_)
      · by_cases e1 : k = i
        · subst e1; rw [pk_us]; exact h4 _ (by omega)
        · rw [pk_un e1]; exact h3 k (by omega)
      · rw [pk_un (by omega)]; exact h4 k hk
    · have : i = h := by omega
      subst this
      exact ⟨a, by rw [if_pos (by rw [z_le (by omega) (by omega)]; omega)], h3⟩
theorem m_lift {N n h : Nat} {a : Nat → Int32} (hN : 3000 < N) (hh : h ≤ 100) (hn : n = 2 * h) (hd : nI n / 2 = nI h) : ∃ a', f_X9_lifts N n a = some a' ∧ ∀ k, k < h → a' k = a (h + k) := by
  obtain ⟨a', p1, p2⟩ := m_lift3 (N := N) (a0 := a) hh N 0 a (Nat.zero_le _) (by omega) (fun k hk => absurd hk (Nat.not_lt_zero k)) (fun _ _ => rfl)
  refine ⟨a', ?_, p2⟩
  unfold f_X9_lifts f_X9_copies_al
  rw [hd, hn]
  rw [show nI 0 = 0 from rfl] at p1
  rw [p1, z_ob2, z_ob1]
/-- the start -/
def nb (wd sd lf : Int32) (k : Nat) : Int32 := if k = 1 then wd else if k = 2 then sd else if k = 3 then lf else if 15 ≤ k ∧ k < 25 then -2 else if 59 ≤ k ∧ k < 83 then -2 else 0
theorem m_beg2 {N : Nat} : ∀ (n i : Nat) (a : Nat → Int32), i ≤ 213 → 213 - i < n → (∀ k, k < i → a k = 0) → ∃ a', f_X9_begins_2 N n (nI i) a = some (nI 213, a') ∧ ∀ k, k < 213 → a' k = 0 := by
  intro n
  induction n with
  | zero => intro i a h1 h2; omega
  | succ n ih =>
    intro i a h1 h2 h3
    rw [f_X9_begins_2.eq_2, show (213 : Int32) = nI 213 from rfl]
    by_cases h5 : i < 213
    · rw [if_neg (by rw [z_le (by omega) (by omega)]; omega), z_gIx (by omega) (by omega), z_cl (by omega), nI_1]
      refine ih (i + 1) _ (by omega) (by omega) (fun k hk => ?_)
      by_cases e1 : k = i
      · subst e1; rw [pk_us]
      · rw [pk_un e1]; exact h3 k (by omega)
    · have : i = 213 := by omega
      subst this
      exact ⟨a, by rw [if_pos (by rw [z_le (by omega) (by omega)]; omega)], h3⟩
theorem m_beg68 {N : Nat} {a0 : Nat → Int32} : ∀ (n i : Nat) (a : Nat → Int32), i ≤ 10 → 10 - i < n → (∀ k, a k = if 15 ≤ k ∧ k < 15 + i then -2 else a0 k) → ∃ a', f_X9_begins_68 N n (nI i) a = some (nI 10, a') ∧ ∀ k, a' k = if 15 ≤ k ∧ k < 25 then -2 else a0 k := by
  intro n
  induction n with
  | zero => intro i a h1 h2; omega
  | succ n ih =>
    intro i a h1 h2 h3
    rw [f_X9_begins_68.eq_2, show (10 : Int32) = nI 10 from rfl, show (15 : Int32) = nI 15 from rfl]
    by_cases h5 : i < 10
    · rw [if_neg (by rw [z_le (by omega) (by omega)]; omega), z_add, z_gIx (by omega) (by omega), z_cl (by omega), nI_1]
      refine ih (i + 1) _ (by omega) (by omega) (fun k => ?_)
      by_cases e1 : k = 15 + i
      · subst e1; rw [pk_us, if_pos (by omega)]
      · rw [pk_un e1, h3 k]
        by_cases e2 : 15 ≤ k ∧ k < 15 + i
        · rw [if_pos e2, if_pos (by omega)]
        · rw [if_neg e2, if_neg (by omega)]
    · have : i = 10 := by omega
      subst this
      exact ⟨a, by rw [if_pos (by rw [z_le (by omega) (by omega)]; omega)], h3⟩
theorem m_beg93 {N : Nat} {a0 : Nat → Int32} : ∀ (n i : Nat) (a : Nat → Int32), i ≤ 24 → 24 - i < n → (∀ k, a k = if 59 ≤ k ∧ k < 59 + i then -2 else a0 k) → ∃ a', f_X9_begins_93 N n (nI i) a = some (nI 24, a') ∧ ∀ k, a' k = if 59 ≤ k ∧ k < 83 then -2 else a0 k := by
  intro n
  induction n with
  | zero => intro i a h1 h2; omega
  | succ n ih =>
    intro i a h1 h2 h3
    rw [f_X9_begins_93.eq_2, show (24 : Int32) = nI 24 from rfl, show (59 : Int32) = nI 59 from rfl]
    by_cases h5 : i < 24
    · rw [if_neg (by rw [z_le (by omega) (by omega)]; omega), z_add, z_gIx (by omega) (by omega), z_cl (by omega), nI_1]
      refine ih (i + 1) _ (by omega) (by omega) (fun k => ?_)
      by_cases e1 : k = 59 + i
      · subst e1; rw [pk_us, if_pos (by omega)]
      · rw [pk_un e1, h3 k]
        by_cases e2 : 59 ≤ k ∧ k < 59 + i
        · rw [if_pos e2, if_pos (by omega)]
        · rw [if_neg e2, if_neg (by omega)]
    · have : i = 24 := by omega
      subst this
      exact ⟨a, by rw [if_pos (by rw [z_le (by omega) (by omega)]; omega)], h3⟩
theorem m_begins {N : Nat} {lf sw sd : Int32} {now winds isSaved : Nat → Int32} (hN : 3000 < N) : ∃ now' sv, f_X9_begins N lf sw sd now winds isSaved = some (0, now', sv) ∧ (∀ k, k < 213 → now' k = nb (if winds 0 = 0 then -2 else sw) sd lf k) ∧ sv 0 = 0 ∧ sv 1 = 0 := by
  obtain ⟨a1, p1, p2⟩ := m_beg2 (N := N) N 0 now (by omega) (by omega) (fun k hk => absurd hk (Nat.not_lt_zero k))
  rw [show nI 0 = 0 from rfl] at p1
  have hj : ∀ wd : Int32, ∃ now' sv, f_X9_begins_j45 N lf sd isSaved a1 1 wd = some (0, now', sv) ∧ (∀ k, k < 213 → now' k = nb wd sd lf k) ∧ sv 0 = 0 ∧ sv 1 = 0 := by
    intro wd
    obtain ⟨a2, q1, q2⟩ := m_beg68 (N := N) (a0 := upd (upd (upd a1 1 wd) 2 sd) 3 lf) N 0 (upd (upd (upd a1 1 wd) 2 sd) 3 lf) (by omega) (by omega) (fun k => by rw [if_neg (by omega)])
    obtain ⟨a3, r1, r2⟩ := m_beg93 (N := N) (a0 := a2) N 0 a2 (by omega) (by omega) (fun k => by rw [if_neg (by omega)])
    rw [show nI 0 = 0 from rfl] at q1 r1
    unfold f_X9_begins_j45
    rw [show (1 : Int32).toNatClampNeg = 1 from rfl, show (2 : Int32).toNatClampNeg = 2 from rfl, show (3 : Int32).toNatClampNeg = 3 from rfl, z_gIe (x := 1) (i := 1) (n := 213) rfl (by omega) (by omega), z_gIe (x := 2) (i := 2) (n := 213) rfl (by omega) (by omega), z_gIe (x := 3) (i := 3) (n := 213) rfl (by omega) (by omega), q1, z_ob2, r1, z_ob2, z_gI0 (by omega) (by omega), z_gI1]
    refine ⟨a3, _, rfl, fun k hk => ?_, rfl, rfl⟩
    rw [r2 k, q2 k]
    unfold nb
    have hk2 := p2 k hk
    show (if _ then _ else if _ then _ else (if k = 3 then lf else if k = 2 then sd else if k = 1 then wd else a1 k)) = _
    rw [hk2]
    by_cases e1 : k = 1
    · subst e1; rfl
    by_cases e2 : k = 2
    · subst e2; rfl
    by_cases e3 : k = 3
    · subst e3; rfl
    rw [if_neg e1, if_neg e2, if_neg e3, if_neg e1, if_neg e2, if_neg e3]
    by_cases e4 : 59 ≤ k ∧ k < 83
    · rw [if_pos e4, if_pos e4, if_neg (by omega)]
    · rw [if_neg e4, if_neg e4]
  unfold f_X9_begins
  rw [p1, z_ob2, z_gI0 (by omega) (by omega), z_c0]
  by_cases h : winds 0 = 0
  · rw [if_pos h, if_pos h]; exact hj _
  · rw [if_neg h, if_neg h]; exact hj _
theorem c_fill {N M : Nat} {x : Int32} (hM : M ≤ 100) : ∀ (n i : Nat) (a : Nat → Int32), i ≤ M → M - i < n → (∀ k, k < i → a k = x) → ∃ a', f_J7_fill_53178_5 N x M (nI M) n (nI i) a = some (nI M, a') ∧ ∀ k, k < M → a' k = x := by
  intro n
  induction n with
  | zero => intro i a h1 h2; omega
  | succ n ih =>
    intro i a h1 h2 h3
    rw [f_J7_fill_53178_5.eq_2]
    by_cases h5 : i < M
    · rw [if_neg (by rw [z_le (by omega) (by omega)]; omega), z_gIx (by omega) (by omega), z_cl (by omega), nI_1]
      refine ih (i + 1) _ (by omega) (by omega) (fun k hk => ?_)
      by_cases e1 : k = i
      · subst e1; rw [pk_us]
      · rw [pk_un e1]; exact h3 k (by omega)
    · have : i = M := by omega
      subst this
      exact ⟨a, by rw [if_pos (by rw [z_le (by omega) (by omega)]; omega)], h3⟩
theorem c_fill' {N M : Nat} {x : Int32} {a : Nat → Int32} (hN : 3000 < N) (hM : M ≤ 100) : ∃ a', f_J7_fill_53178 N M a x = some a' ∧ ∀ k, k < M → a' k = x := by
  obtain ⟨a', p1, p2⟩ := c_fill (N := N) (x := x) hM N 0 a (Nat.zero_le _) (by omega) (fun k hk => absurd hk (Nat.not_lt_zero k))
  rw [show nI 0 = 0 from rfl] at p1
  refine ⟨a', ?_, p2⟩
  unfold f_J7_fill_53178
  rw [p1, z_ob2]
theorem bs_all : ∀ n : Nat, bs n (fun _ => true) = 2 ^ n - 1
  | 0 => rfl
  | n + 1 => by
    have e : bs (n + 1) (fun _ => true) = bs n (fun _ => true) + 2 ^ n := rfl
    have := Nat.two_pow_pos n
    rw [e, bs_all n, Nat.pow_succ]; omega
variable {P : Nat → Nat → Nat} {T : Nat} {day wind loftN lost lc jc : Int32} {ds : Int64} {jk jn jd bst br cg lt an ho du la mNow : Nat → Int32}
/-- a siege begins -/
theorem e_begin {N : Nat} {isSaved winds : Nat → Int32} {sw lf sd lf2 st2 sd2 lt2 ct2 : Int32} (hN : 3000 < N) (hG : WF G) (h1 : lt2 = nI (G 0 4)) (h2 : lf2 = nI (G 0 5)) (h3 : st2 = nI (G 0 6)) (h4 : sd2 = nI (G 0 7)) (h5 : ct2 = nI (G 0 1)) (h6 : winds 0 = nI (G 0 1)) (h7 : lf = nI (G 0 5)) (h8 : sw = nI (G 0 6)) (h9 : sd = nI (G 0 7)) : ∃ day' wind' loft' lost' lc' ds' jc' bst' br' cg' lt' an' ho' du' now' sv, f_X6_begin N bst br cg lt lt2 lf2 st2 sd2 an ho du ct2 = some (day', wind', loft', lost', lc', ds', jc', bst', br', cg', lt', an', ho', du') ∧ f_X9_begins N lf sw sd mNow winds isSaved = some (0, now', sv) ∧ RSx G T day' wind' loft' lost' lc' ds' jc' jk jn jd bst' br' cg' lt' an' ho' du' la now' ∧ sv 0 = 0 ∧ sv 1 = 0 := by
  obtain ⟨⟨g0, g1, g2, g3, g4, g5, g6, g7⟩, gr, ⟨gna, gn1, gn2, gn3⟩, ⟨gt1, gt2, gt3⟩, gb, gl⟩ := hG
  subst h1 h2 h3 h4 h5 h7 h8 h9
  obtain ⟨now', sv, b1, b2, b3, b4⟩ := m_begins (N := N) (lf := nI (G 0 5)) (sw := nI (G 0 6)) (sd := nI (G 0 7)) (now := mNow) (winds := winds) (isSaved := isSaved) hN
  obtain ⟨a1, p1, q1⟩ := c_fill' (N := N) (M := 10) (x := 0) (a := bst) hN (by omega)
  obtain ⟨a2, p2, q2⟩ := c_fill' (N := N) (M := 10) (x := -2) (a := br) hN (by omega)
  obtain ⟨a3, p3, q3⟩ := c_fill' (N := N) (M := 10) (x := 0) (a := cg) hN (by omega)
  obtain ⟨a4, p4, q4⟩ := c_fill' (N := N) (M := 4) (x := 0) (a := lt) hN (by omega)
  obtain ⟨a5, p5, q5⟩ := c_fill' (N := N) (M := 24) (x := -2) (a := an) hN (by omega)
  obtain ⟨a6, p6, q6⟩ := c_fill' (N := N) (M := 10) (x := 0) (a := ho) hN (by omega)
  obtain ⟨a7, p7, q7⟩ := c_fill' (N := N) (M := 10) (x := 0) (a := du) hN (by omega)
  have hp := z_p24 g4
  have hpos := Nat.two_pow_pos (G 0 4)
  have ew : (winds 0 = 0) = (G 0 1 = 0) := by rw [h6]; exact z_eq (b := 0) (by omega) (by omega)
  have ec : (nI (G 0 1) ≤ 0) = (G 0 1 ≤ 0) := z_le (b := 0) (by omega) (by omega)
  have hj : ∀ wd : Int32, (wd = if G 0 1 = 0 then -2 else nI (G 0 6)) → RSx G T 0 wd (nI (G 0 5)) 0 0 (nI (G 0 7)).toInt64 0 jk jn jd a1 a2 a3 (upd a4 0 (nI (2 ^ G 0 4 - 1))) a5 a6 a7 la now' := by
    intro wd hwd
    have nn : ∀ k, k < 213 → now' k = nb wd (nI (G 0 7)) (nI (G 0 5)) k := by
      intro k hk
      rw [b2 k hk, hwd]
      simp only [ew]
    refine ⟨fun a => if a = 0 then (fun k => if k = 1 then G 0 6 else if k = 2 then G 0 7 else 0) else (fun _ => 0), ⟨⟨rfl, nn 0 (by omega), Nat.zero_le _⟩, ⟨nn 1 (by omega), fun h => ⟨?_, ?_⟩, fun h => ?_⟩, ⟨?_, nn 2 (by omega), ?_⟩, nn 3 (by omega), nn 4 (by omega)⟩, ⟨rfl, nn 164 (by omega), Nat.zero_le _, fun j hj => absurd hj (Nat.not_lt_zero j)⟩, ⟨fun b hb => ⟨q1 b hb, ?_, (show (0 : Nat) < 4 by decide)⟩, fun b hb => ?_, fun b hb => ⟨q3 b hb, ?_, hpos⟩⟩, ⟨fun s hs => ?_, fun k hk => ⟨?_, (show (0 : Nat) < 4 by decide)⟩, fun k hk => ?_⟩, ⟨rfl, fun j hj => absurd hj (Nat.not_lt_zero j), fun b hb => ⟨q6 b hb, Nat.zero_le _, q7 b hb, Nat.zero_le _⟩⟩, ⟨nn 83 (by omega), fun i b hq => ?_⟩, ⟨fun b hb => ?_, fun b hb _ => ⟨rfl, rfl⟩, fun b hb h => absurd h (Nat.lt_irrefl 0), fun b b' k hb hb' hne hk h => ?_, fun b k hb hk h => ?_⟩⟩
    · show wd = nI (G 0 6)
      rw [hwd, if_neg (by omega)]
    · show G 0 6 < G 0 1
      omega
    · rw [hwd, if_pos h]
    · show (nI (G 0 7)).toInt64 = lN (G 0 7)
      exact z_l (by omega)
    · show G 0 7 < 2 ^ 31
      omega
    · rw [nn (5 + b) (by omega)]; unfold nb
      rw [if_neg (by omega), if_neg (by omega), if_neg (by omega), if_neg (by omega), if_neg (by omega)]; rfl
    · rw [nn (15 + b) (by omega), q2 b hb]; unfold nb
      rw [if_neg (by omega), if_neg (by omega), if_neg (by omega), if_pos (by omega)]
    · rw [nn (25 + b) (by omega)]; unfold nb
      rw [if_neg (by omega), if_neg (by omega), if_neg (by omega), if_neg (by omega), if_neg (by omega)]; rfl
    · show upd a4 0 (nI (2 ^ G 0 4 - 1)) s = nI (bs (G 0 4) (fun k => (0 : Nat) == s))
      by_cases e1 : s = 0
      · subst e1
        rw [pk_us]
        exact congrArg nI (bs_all (G 0 4)).symm
      · rw [pk_un e1, q4 s hs, bs_z (fun k _ => by simp [Ne.symm e1])]; rfl
    · rw [nn (35 + k) (by omega)]; unfold nb
      rw [if_neg (by omega), if_neg (by omega), if_neg (by omega), if_neg (by omega), if_neg (by omega)]; rfl
    · rw [nn (59 + k) (by omega), q5 k hk]; unfold nb
      rw [if_neg (by omega), if_neg (by omega), if_neg (by omega), if_neg (by omega), if_pos (by omega)]
    · cases hq
    · rfl
    · have h : (0 : Nat).testBit k = true := h
      rw [Nat.zero_testBit] at h; cases h
    · have h : (0 : Nat).testBit k = true := h
      rw [Nat.zero_testBit] at h; cases h
  have es : ((1 : Int32) <<< (nI (G 0 4) &&& 31)) - 1 = nI (2 ^ G 0 4 - 1) := by
    rw [z_shl1 (by omega)]; exact z_sub (b := 1) hpos
  unfold f_X6_begin
  rw [p1, z_ob1, p2, z_ob1, p3, z_ob1, p4, z_ob1, z_gI0 (by omega) (by omega), p5, z_ob1, p6, z_ob1, p7, z_ob1, z_c0, es]
  simp only [ec]
  unfold f_X6_begin_j110
  by_cases h : G 0 1 ≤ 0
  · rw [if_pos h]
    exact ⟨_, _, _, _, _, _, _, _, _, _, _, _, _, _, now', sv, rfl, b1, hj _ (by rw [if_pos (by omega)]), b3, b4⟩
  · rw [if_neg h]
    exact ⟨_, _, _, _, _, _, _, _, _, _, _, _, _, _, now', sv, rfl, b1, hj _ (by rw [if_neg (by omega)]), b3, b4⟩
