theorem ite2 {A A' B B' : Prop} [Decidable A] [Decidable A'] [Decidable B] [Decidable B'] {x y z : Int32} (h1 : A ↔ A') (h2 : B ↔ B') : (if A then x else if B then y else z) = (if A' then x else if B' then y else z) := by
  by_cases a : A
  · rw [if_pos a, if_pos (h1.mp a)]
  · rw [if_neg a, if_neg (fun q => a (h1.mpr q))]
    by_cases b : B
    · rw [if_pos b, if_pos (h2.mp b)]
    · rw [if_neg b, if_neg (fun q => b (h2.mpr q))]
/-- answers: model -/
theorem m_answers_2 {N n b s d : Nat} {letters : Nat → Int32} {e : Nat → Nat} (hn : n ≤ 24) (hb : b < 10) (hs : s < 2 ^ 31) (h0 : letters 0 = nI n) (he : ∀ k, k < n → e k < 4) : ∀ (m i : Nat) (y y0 : Nat → Int32), i ≤ n → n - i < m → y0 0 = nI d → y0 (25 + b) = nI s → (∀ k, k < n → y0 (35 + k) = nI (e k)) → (∀ q, y q = if 35 ≤ q ∧ q < 35 + i ∧ s.testBit (q - 35) = true ∧ e (q - 35) = 2 then nI 3 else if 59 ≤ q ∧ q < 59 + i ∧ s.testBit (q - 59) = true ∧ e (q - 59) = 2 then nI d else y0 q) → ∃ y', f_X9_answers_2 N letters (nI b) m (nI i) y = some (nI n, y') ∧ ∀ q, y' q = if 35 ≤ q ∧ q < 35 + n ∧ s.testBit (q - 35) = true ∧ e (q - 35) = 2 then nI 3 else if 59 ≤ q ∧ q < 59 + n ∧ s.testBit (q - 59) = true ∧ e (q - 59) = 2 then nI d else y0 q := by
  intro m
  induction m with
  | zero => intro i y y0 h1 h2; omega
  | succ m ih =>
    intro i y y0 h1 h2 z0 z25 z35 hy
    rw [f_X9_answers_2.eq_2, z_gI0 (by omega) (by omega), z_c0, h0]
    have e1 : nI i + 1 = nI (i + 1) := nI_1 i
    have a35 : (35 : Int32) + nI i = nI (35 + i) := by rw [show (35 : Int32) = nI 35 from rfl, z_add]
    have a59 : (59 : Int32) + nI i = nI (59 + i) := by rw [show (59 : Int32) = nI 59 from rfl, z_add]
    have a25 : (25 : Int32) + nI b = nI (25 + b) := by rw [show (25 : Int32) = nI 25 from rfl, z_add]
    have i0 : ∀ k, gIx (γ := Int32 × (Nat → Int32)) 0 213 k = k := fun k => z_gIx (i := 0) (by omega) (by omega)
    by_cases h : i < n
    · have y25 : y (25 + b) = nI s := by rw [hy, if_neg (by omega), if_neg (by omega), z25]
      have y35 : y (35 + i) = nI (e i) := by rw [hy, if_neg (by omega), if_neg (by omega), z35 i h]
      have y0' : y 0 = nI d := by rw [hy, if_neg (by omega), if_neg (by omega), z0]
      have hei := he i h
      rw [if_neg (by rw [z_le (by omega) (by omega)]; omega), a25, z_gIx (by omega) (by omega), z_cl (n := 25 + b) (by omega), y25, z_has9 hs (by omega), z_ob1]
      by_cases hbit : s.testBit i = true
      · rw [if_pos hbit, if_neg (by decide), a35, z_gIx (by omega) (by omega), z_cl (n := 35 + i) (by omega), y35]
        have e2 : (nI (e i) = 2) = (e i = 2) := z_eq (b := 2) (by omega) (by omega)
        simp only [e2]
        by_cases h2' : e i = 2
        · rw [if_pos h2', z_gIx (by omega) (by omega), i0, a59, z_gIx (by omega) (by omega), z_cl (n := 59 + i) (by omega), pk_un (by omega), y0', e1]
          refine ih (i + 1) _ y0 (by omega) (by omega) z0 z25 z35 ?_
          intro q
          by_cases q1 : q = 59 + i
          · subst q1
            rw [pk_us, if_neg (by omega), if_pos ⟨by omega, by omega, by rw [show 59 + i - 59 = i by omega]; exact hbit, by rw [show 59 + i - 59 = i by omega]; exact h2'⟩]
          · rw [pk_un q1]
            by_cases q2 : q = 35 + i
            · subst q2
              rw [pk_us, if_pos ⟨by omega, by omega, by rw [show 35 + i - 35 = i by omega]; exact hbit, by rw [show 35 + i - 35 = i by omega]; exact h2'⟩]; rfl
            · rw [pk_un q2, hy q]
              exact ite2 ⟨fun t => ⟨t.1, by omega, t.2.2⟩, fun t => ⟨t.1, by omega, t.2.2⟩⟩ ⟨fun t => ⟨t.1, by omega, t.2.2⟩, fun t => ⟨t.1, by omega, t.2.2⟩⟩
        · rw [if_neg h2', e1]
          refine ih (i + 1) y y0 (by omega) (by omega) z0 z25 z35 ?_
          intro q
          rw [hy q]
          refine ite2 ⟨fun t => ⟨t.1, by omega, t.2.2⟩, fun t => ⟨t.1, ?_, t.2.2⟩⟩ ⟨fun t => ⟨t.1, by omega, t.2.2⟩, fun t => ⟨t.1, ?_, t.2.2⟩⟩
          · have : q - 35 ≠ i := fun z => h2' (by rw [← z]; exact t.2.2.2)
            omega
          · have : q - 59 ≠ i := fun z => h2' (by rw [← z]; exact t.2.2.2)
            omega
      · rw [if_neg hbit, if_pos rfl, e1]
        refine ih (i + 1) y y0 (by omega) (by omega) z0 z25 z35 ?_
        intro q
        rw [hy q]
        refine ite2 ⟨fun t => ⟨t.1, by omega, t.2.2⟩, fun t => ⟨t.1, ?_, t.2.2⟩⟩ ⟨fun t => ⟨t.1, by omega, t.2.2⟩, fun t => ⟨t.1, ?_, t.2.2⟩⟩
        · have : q - 35 ≠ i := fun z => hbit (by rw [← z]; exact t.2.2.1)
          omega
        · have : q - 59 ≠ i := fun z => hbit (by rw [← z]; exact t.2.2.1)
          omega
    · have : i = n := by omega
      subst this
      exact ⟨y, by rw [if_pos (by rw [z_le (by omega) (by omega)]; omega)], hy⟩
theorem m_answers {N n b s d : Nat} {letters now : Nat → Int32} {e : Nat → Nat} (hN : 100 < N) (hn : n ≤ 24) (hb : b < 10) (hs : s < 2 ^ 31) (h0 : letters 0 = nI n) (he : ∀ k, k < n → e k < 4) (z0 : now 0 = nI d) (z25 : now (25 + b) = nI s) (z35 : ∀ k, k < n → now (35 + k) = nI (e k)) : ∃ y', f_X9_answers N letters now (nI b) = some y' ∧ (∀ k, k < n → y' (35 + k) = nI (if s.testBit k = true ∧ e k = 2 then 3 else e k)) ∧ (∀ k, k < n → y' (59 + k) = if s.testBit k = true ∧ e k = 2 then nI d else now (59 + k)) ∧ ∀ q, ¬ (35 ≤ q ∧ q < 35 + n) → ¬ (59 ≤ q ∧ q < 59 + n) → y' q = now q := by
  obtain ⟨y', h1, h2⟩ := m_answers_2 (N := N) (d := d) hn hb hs h0 he N 0 now now (by omega) (by omega) z0 z25 z35 (fun q => by rw [if_neg (by omega), if_neg (by omega)])
  unfold f_X9_answers
  refine ⟨y', ob2_of h1, fun k hk => ?_, fun k hk => ?_, fun q q1 q2 => ?_⟩
  · rw [h2, show 35 + k - 35 = k by omega]
    by_cases c : s.testBit k = true ∧ e k = 2
    · rw [if_pos ⟨by omega, by omega, c⟩, if_pos c]
    · rw [if_neg (fun t => c t.2.2), if_neg (by omega), if_neg c, z35 k hk]
  · rw [h2, show 59 + k - 59 = k by omega, if_neg (by omega)]
    by_cases c : s.testBit k = true ∧ e k = 2
    · rw [if_pos ⟨by omega, by omega, c⟩, if_pos c]
    · rw [if_neg (fun t => c t.2.2), if_neg c]
  · rw [h2, if_neg (fun t => q1 ⟨t.1, t.2.1⟩), if_neg (fun t => q2 ⟨t.1, t.2.1⟩)]
/-- answers: class -/
theorem s_answer_24 {N n s : Nat} {day : Int32} (hn : n ≤ 24) (hs : s < 2 ^ 31) : ∀ (m i : Nat) (y y0 : Nat → Int32), i ≤ n → n - i < m → (∀ q, y q = if q < i ∧ s.testBit q = true then day else y0 q) → ∃ y', f_X6_answer_24 N day (nI n) (nI s) m (nI i) y = some (nI n, y') ∧ ∀ q, y' q = if q < n ∧ s.testBit q = true then day else y0 q := by
  intro m
  induction m with
  | zero => intro i y y0 h1 h2; omega
  | succ m ih =>
    intro i y y0 h1 h2 hy
    rw [f_X6_answer_24.eq_2]
    have e1 : nI i + 1 = nI (i + 1) := nI_1 i
    by_cases h : i < n
    · simp (disch := omega) only [z_le, z_bit, z_gIx, z_cl, e1, if_neg]
      by_cases hb : s.testBit i = true
      · rw [if_pos hb]
        refine ih (i + 1) _ y0 (by omega) (by omega) ?_
        intro q
        by_cases e : q = i
        · subst e; rw [pk_us, if_pos ⟨by omega, hb⟩]
        · rw [pk_un e, hy q]
          by_cases c : q < i ∧ s.testBit q = true
          · rw [if_pos c, if_pos ⟨by omega, c.2⟩]
          · rw [if_neg c, if_neg (fun t => c ⟨by omega, t.2⟩)]
      · rw [if_neg hb]
        refine ih (i + 1) y y0 (by omega) (by omega) ?_
        intro q
        rw [hy q]
        by_cases c : q < i ∧ s.testBit q = true
        · rw [if_pos c, if_pos ⟨by omega, c.2⟩]
        · rw [if_neg c, if_neg (fun t => c ⟨by
            have : q ≠ i := fun z => hb (by rw [← z]; exact t.2)
            omega, t.2⟩)]
    · have : i = n := by omega
      subst this
      exact ⟨y, by simp (disch := omega) only [z_le, if_pos], hy⟩
theorem s_answer {N n s : Nat} {day : Int32} {lt an : Nat → Int32} {e : Nat → Nat} (hN : 100 < N) (hn : n ≤ 24) (hs : s < 2 ^ n) (hl : ∀ st, st < 4 → lt st = nI (bs n (fun k => e k == st))) (h2 : ∀ k, k < n → s.testBit k = true → e k = 2) : ∃ lt' an', f_X6_answer N day lt (nI n) an (nI s) = some (lt', an') ∧ (∀ st, st < 4 → lt' st = nI (bs n (fun k => (if s.testBit k then 3 else e k) == st))) ∧ ∀ q, an' q = if q < n ∧ s.testBit q = true then day else an q := by
  have hp := z_p24 hn
  obtain ⟨y', p1, p2⟩ := s_answer_24 (N := N) (n := n) (s := s) (day := day) hn (by omega) N 0 an an (by omega) (by omega) (fun q => by rw [if_neg (by omega)])
  rw [show nI 0 = 0 from rfl] at p1
  unfold f_X6_answer
  have i2 : ∀ k, gIx (γ := (Nat → Int32) × (Nat → Int32)) 2 4 k = k := fun k => z_gIx (i := 2) (by omega) (by omega)
  have i3 : ∀ k, gIx (γ := (Nat → Int32) × (Nat → Int32)) 3 4 k = k := fun k => z_gIx (i := 3) (by omega) (by omega)
  have c2 : (2 : Int32).toNatClampNeg = 2 := rfl
  have c3 : (3 : Int32).toNatClampNeg = 3 := rfl
  rw [i2, i2, i3, i3, p1, z_ob2, c2, c3]
  refine ⟨_, _, rfl, fun st hst => ?_, p2⟩
  have e0 := bs_of hs
  by_cases h3 : st = 3
  · subst h3
    rw [pk_us, pk_un (by omega), hl 3 (by omega), z_or, e0, bs_or]
    refine congrArg nI (bs_congr (fun k hk => ?_))
    rw [bs_bit]
    by_cases hb : s.testBit k = true
    · simp [hb, hk]
    · simp [hb]
  · rw [pk_un h3]
    by_cases h2' : st = 2
    · subst h2'
      rw [pk_us, hl 2 (by omega), z_andn, e0, bs_andn]
      refine congrArg nI (bs_congr (fun k hk => ?_))
      rw [bs_bit]
      by_cases hb : s.testBit k = true
      · simp [hb, hk]
      · simp [hb]
    · rw [pk_un h2', hl st hst]
      refine congrArg nI (bs_congr (fun k hk => ?_))
      by_cases hb : s.testBit k = true
      · have := h2 k hk hb
        rw [if_pos hb, this, beq_false_of_ne (fun q => h2' q.symm), beq_false_of_ne (fun q => h3 q.symm)]
      · simp [hb]
/-- pigeons that stay on their way: the model moves them up -/
theorem m_keep {N b ub k st h d : Nat} {letters : Nat → Int32} {z : Int32} (hz : ∃ n0, z = nI n0 ∧ n0 ≤ 40 ∧ k + h ≤ n0) (hst : st ≤ k) (hub : ub < 2 ^ 30) (hd : d < ub) : ∀ (r i m : Nat) (now : Nat → Int32), i + r = h → now 0 = nI d → (∀ q, i ≤ q → q < h → now (84 + (k + q)) = nI b ∧ now (124 + (k + q)) = nI ub) → ∃ now', f_X9_comeBack_12 N letters z (m + r) (nI (k + i)) (nI (st + i)) now = f_X9_comeBack_12 N letters z m (nI (k + h)) (nI (st + h)) now' ∧ (∀ q, i ≤ q → q < h → now' (84 + (st + q)) = nI b ∧ now' (124 + (st + q)) = nI ub) ∧ ∀ q, ¬ (84 + (st + i) ≤ q ∧ q < 84 + (st + h)) → ¬ (124 + (st + i) ≤ q ∧ q < 124 + (st + h)) → now' q = now q := by
  obtain ⟨n0, rfl, hn0, hkh⟩ := hz
  intro r
  induction r with
  | zero =>
    intro i m now hi h0 hq
    have : i = h := by omega
    subst this
    exact ⟨now, rfl, fun q q1 q2 => by omega, fun _ _ _ => rfl⟩
  | succ r ih =>
    intro i m now hi h0 hq
    obtain ⟨p1, p2⟩ := hq i (by omega) (by omega)
    have a84 : (84 : Int32) + nI (k + i) = nI (84 + (k + i)) := by rw [show (84 : Int32) = nI 84 from rfl, z_add]
    have a124 : (124 : Int32) + nI (k + i) = nI (124 + (k + i)) := by rw [show (124 : Int32) = nI 124 from rfl, z_add]
    have b84 : (84 : Int32) + nI (st + i) = nI (84 + (st + i)) := by rw [show (84 : Int32) = nI 84 from rfl, z_add]
    have b124 : (124 : Int32) + nI (st + i) = nI (124 + (st + i)) := by rw [show (124 : Int32) = nI 124 from rfl, z_add]
    have i0 : ∀ k, gIx (γ := Int32 × Int32 × (Nat → Int32)) 0 213 k = k := fun k => z_gIx (i := 0) (by omega) (by omega)
    have e1 : nI (k + i) + 1 = nI (k + (i + 1)) := nI_1 _
    have e2 : nI (st + i) + 1 = nI (st + (i + 1)) := nI_1 _
    have u1 : upd now (84 + (st + i)) (nI b) (124 + (k + i)) = nI ub := by rw [pk_un (by omega), p2]
    obtain ⟨now', q1, q2, q3⟩ := ih (i + 1) m (upd (upd now (84 + (st + i)) (nI b)) (124 + (st + i)) (nI ub)) (by omega) (by rw [pk_un (by omega), pk_un (by omega)]; exact h0) (fun q h1 h2 => by
      have := hq q (by omega) h2
      rw [pk_un (by omega), pk_un (by omega), pk_un (by omega), pk_un (by omega)]; exact this)
    refine ⟨now', ?_, fun q h1 h2 => ?_, fun q h1 h2 => ?_⟩
    · rw [← q1, show m + (r + 1) = (m + r) + 1 by omega, f_X9_comeBack_12.eq_2, if_neg (by rw [z_le (by omega) (by omega)]; omega), a84, a124, b84, b124, z_gIx (by omega) (by omega), z_gIx (by omega) (by omega), i0, z_cl (n := 84 + (k + i)) (by omega), z_cl (n := 124 + (k + i)) (by omega), p1, p2, z_c0, h0, if_neg (by rw [z_le (by omega) (by omega)]; omega), z_gIx (by omega) (by omega), z_gIx (by omega) (by omega), z_gIx (by omega) (by omega), z_cl (n := 84 + (st + i)) (by omega), z_cl (n := 124 + (st + i)) (by omega), u1, e1, e2]
    · by_cases e : q = i
      · subst e
        rw [q3 _ (by omega) (by omega), q3 _ (by omega) (by omega), pk_un (by omega), pk_us, pk_us]; exact ⟨rfl, rfl⟩
      · exact q2 q (by omega) h2
    · rw [q3 q (by omega) (by omega), pk_un (by omega), pk_un (by omega)]
