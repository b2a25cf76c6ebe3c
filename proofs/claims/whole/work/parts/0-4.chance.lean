/-- chances -/
theorem s_power_5 {N b e : Nat} (hb : b < 2 ^ 31) (he : e < 2 ^ 31) : ∀ (n i v : Nat), i ≤ e → e - i < n → f_X8_power_5 N (nI b) (nI e) n (nI i) (lN v) = some (nI e, lN (v * b ^ (e - i))) := by
  intro n
  induction n with
  | zero => intro i v h1 h2; omega
  | succ n ih =>
    intro i v h1 h2
    rw [f_X8_power_5.eq_2]
    by_cases h : i < e
    · have := ih (i + 1) (v * b) (by omega) (by omega)
      simp (disch := omega) only [z_le, z_l, lN_mul, nI_1, if_neg, this]
      rw [show e - i = (e - (i + 1)) + 1 by omega, Nat.pow_succ, Nat.mul_assoc, Nat.mul_comm b]
    · have : i = e := by omega
      subst this
      simp (disch := omega) only [z_le, if_pos, Nat.sub_self, Nat.pow_zero, Nat.mul_one]
theorem s_power {N b e : Nat} (hb : b < 2 ^ 31) (he : e < N) (hN : N < 2 ^ 31) : f_X8_power N (nI b) (nI e) = some (lN (b ^ e)) := by
  unfold f_X8_power
  have := s_power_5 (N := N) (b := b) (e := e) hb (by omega) N 0 1 (by omega) (by omega)
  rw [show nI 0 = 0 from rfl, show lN 1 = 1 from rfl] at this
  rw [this, z_ob2, Nat.sub_zero, Nat.one_mul]
theorem s_X9_power (N : Nat) (a b : Int32) : f_X9_power N a b = f_X8_power N a b := by
  have : ∀ n i v, f_X9_power_5 N a b n i v = f_X8_power_5 N a b n i v := by
    intro n
    induction n with
    | zero => intro i v; rfl
    | succ n ih => intro i v; rw [f_X8_power_5.eq_2, f_X9_power_5.eq_2, ih]
  unfold f_X9_power f_X8_power
  rw [this]
/-- the chances at the start -/
def chB (w sh : Nat) (k : Nat) : Nat := if k = w ∧ k ≠ sh then 1 else 0
/-- a day on, by a table of tenths -/
def chS (nW : Nat) (F : Nat → Nat → Nat) (ch : Nat → Nat) (v : Nat) : Nat := if v < nW then sm nW (fun w => ch w * F w v) else 0
theorem s_begin_2 {N w : Nat} (hw : w < 2 ^ 31) : ∀ (n i : Nat) (a : Nat → Int64), i ≤ 6 → 6 - i < n → (∀ k, k < i → a k = lN (if k = w then 1 else 0)) → ∃ a', f_X0_begin_2 N (nI w) n (nI i) a = some (nI 6, a') ∧ ∀ k, k < 6 → a' k = lN (if k = w then 1 else 0) := by
  intro n
  induction n with
  | zero => intro i a h1 h2; omega
  | succ n ih =>
    intro i a h1 h2 ha
    rw [f_X0_begin_2.eq_2]
    by_cases h : i < 6
    · obtain ⟨a', h3, h4⟩ := ih (i + 1) (vp_updL a i (lN (if i = w then 1 else 0))) (by omega) (by omega) (by
        intro k hk
        by_cases e : k = i
        · subst e; rw [pk_uLs]
        · rw [pk_uLn e]; exact ha k (by omega))
      refine ⟨a', ?_, h4⟩
      rw [← h3]
      by_cases e : i = w
      · subst e
        simp (disch := omega) only [z_lit, z_le, z_gIx, z_cl, nI_1, z_add, if_pos, if_neg]
        rfl
      · simp (disch := omega) only [z_lit, z_le, z_eq, z_gIx, z_cl, nI_1, z_add, if_pos, if_neg]
        rfl
    · have : i = 6 := by omega
      subst this
      exact ⟨a, by simp (disch := omega) only [z_lit, z_le, if_pos], ha⟩
theorem s_begin {N w : Nat} (hw : w < 2 ^ 31) (hN : 100 < N) (now : Nat → Int64) : ∃ a', f_X0_begin N now (nI w) = some a' ∧ ∀ k, k < 6 → a' k = lN (if k = w then 1 else 0) := by
  obtain ⟨a', h1, h2⟩ := s_begin_2 (N := N) hw N 0 now (by omega) (by omega) (fun k hk => absurd hk (Nat.not_lt_zero k))
  rw [show nI 0 = 0 from rfl] at h1
  exact ⟨a', by unfold f_X0_begin; rw [h1, z_ob2], h2⟩
/-- the wind that is shunned: one of six, or none -/
def shI (sh : Nat) : Int32 := if sh < 6 then nI sh else -2
theorem s_shun {N sh : Nat} {now : Nat → Int64} {ch : Nat → Nat} (h : ∀ k, k < 6 → now k = lN (ch k)) : ∃ a', f_X0_shun N now (shI sh) = some a' ∧ ∀ k, k < 6 → a' k = lN (if k = sh then 0 else ch k) := by
  unfold f_X0_shun shI
  by_cases hs : sh < 6
  · refine ⟨vp_updL now sh 0, ?_, ?_⟩
    · simp (disch := omega) only [z_lit, z_lt, z_le, z_gIx, z_cl, if_pos, if_neg]
    · intro k hk
      by_cases e : k = sh
      · subst e; rw [pk_uLs, if_pos rfl]; rfl
      · rw [pk_uLn e, if_neg e]; exact h k hk
  · refine ⟨now, ?_, ?_⟩
    · rw [if_neg hs, if_pos (by decide)]
    · intro k hk
      rw [if_neg (by omega)]; exact h k hk
theorem s_follow {N nW : Nat} {follow : Nat → Int32} {F : Nat → Nat → Nat} (hW : nW ≤ 6) (hF : ∀ w v, w < nW → v < nW → follow (w * 6 + v) = nI (F w v)) {w v : Nat} (hw : w < nW) (hv : v < 2 ^ 31) : f_X7_followTenths N (nI nW) follow (nI w) (nI v) = some (nI (if v < nW then F w v else 0)) := by
  unfold f_X7_followTenths
  by_cases h : v < nW
  · simp (disch := omega) only [z_lit, z_lt, z_le, z_mul, z_add, z_gIx, z_cl, if_pos, if_neg, hF]
  · simp (disch := omega) only [z_lit, z_lt, z_le, z_mul, z_add, z_gIx, z_cl, if_pos, if_neg]
theorem s_land {N nW : Nat} {land : Nat → Int32} {L : Nat → Nat → Nat} (hW : nW ≤ 6) (hL : ∀ w r, w < nW → r < 9 → land (w * 9 + r) = nI (L w r)) {w r : Nat} (hw : w < nW) (hr : r < 9) : f_X7_landTenths N (nI nW) land (nI w) (nI r) = some (nI (L w r)) := by
  unfold f_X7_landTenths
  simp (disch := omega) only [z_lit, z_lt, z_le, z_mul, z_add, z_gIx, z_cl, if_pos, if_neg, hL]
theorem s_passDay_16 {N nW v : Nat} {now : Nat → Int64} {follow : Nat → Int32} {F : Nat → Nat → Nat} {ch : Nat → Nat} (hW : nW ≤ 6) (hv : v < 6) (hF : ∀ w v, w < nW → v < nW → follow (w * 6 + v) = nI (F w v)) (hb : ∀ w v, w < nW → v < nW → F w v < 2 ^ 31) (hc : ∀ k, k < 6 → now k = lN (ch k)) : ∀ (n i a : Nat), i ≤ nW → nW - i < n → a = sm i (fun w => ch w * (if v < nW then F w v else 0)) → f_X0_passDay_16 N (nI nW) now follow (nI v) n (nI i) (lN a) = some (nI nW, lN (sm nW (fun w => ch w * (if v < nW then F w v else 0)))) := by
  intro n
  induction n with
  | zero => intro i a h1 h2; omega
  | succ n ih =>
    intro i a h1 h2 ha
    rw [f_X0_passDay_16.eq_2]
    by_cases h : i < nW
    · have hbb : (if v < nW then F i v else 0) < 2 ^ 31 := by split; exact hb i v h ‹_›; decide
      have := ih (i + 1) (a + ch i * (if v < nW then F i v else 0)) (by omega) (by omega) (by rw [ha, sm_s])
      simp (disch := first | omega | assumption) only [z_lit, z_le, z_gIx, z_cl, z_add, if_neg, s_follow hW hF, z_ob1, hc, z_l, lN_mul, lN_add, this]
    · have : i = nW := by omega
      subst this
      subst ha
      simp (disch := omega) only [z_le, if_pos]
theorem s_passDay_2 {N nW : Nat} {now : Nat → Int64} {follow : Nat → Int32} {F : Nat → Nat → Nat} {ch : Nat → Nat} (hN : 100 < N) (hW : nW ≤ 6) (hF : ∀ w v, w < nW → v < nW → follow (w * 6 + v) = nI (F w v)) (hb : ∀ w v, w < nW → v < nW → F w v < 2 ^ 31) (hc : ∀ k, k < 6 → now k = lN (ch k)) : ∀ (n i : Nat) (a : Nat → Int64), i ≤ 6 → 6 - i < n → (∀ k, k < i → a k = lN (chS nW F ch k)) → ∃ a', f_X0_passDay_2 N (nI nW) now follow n (nI i) a = some (nI 6, a') ∧ ∀ k, k < 6 → a' k = lN (chS nW F ch k) := by
  intro n
  induction n with
  | zero => intro i a h1 h2; omega
  | succ n ih =>
    intro i a h1 h2 ha
    rw [f_X0_passDay_2.eq_2]
    by_cases h : i < 6
    · obtain ⟨a', h3, h4⟩ := ih (i + 1) (vp_updL a i (lN (chS nW F ch i))) (by omega) (by omega) (by
        intro k hk
        by_cases e : k = i
        · subst e; rw [pk_uLs]
        · rw [pk_uLn e]; exact ha k (by omega))
      refine ⟨a', ?_, h4⟩
      rw [← h3]
      have h5 := s_passDay_16 (N := N) (v := i) hW h hF hb hc N 0 0 (by omega) (by omega) rfl
      have h6 : sm nW (fun w => ch w * (if i < nW then F w i else 0)) = chS nW F ch i := by
        unfold chS
        by_cases e : i < nW
        · rw [if_pos e]; exact sm_congr (fun k _ => by rw [if_pos e])
        · rw [if_neg e]; exact (sm_congr (fun k _ => by rw [if_neg e, Nat.mul_zero])).trans (sm_zero nW)
      rw [h6, show nI 0 = 0 from rfl, show lN 0 = 0 from rfl] at h5
      rw [h5, z_ob2]
      simp (disch := omega) only [z_lit, z_le, z_gIx, z_cl, z_add, if_neg]
    · have : i = 6 := by omega
      subst this
      exact ⟨a, by simp (disch := omega) only [z_lit, z_le, if_pos], ha⟩
theorem s_passDay {N nW : Nat} {then_ now : Nat → Int64} {follow : Nat → Int32} {F : Nat → Nat → Nat} {ch : Nat → Nat} (hN : 100 < N) (hW : nW ≤ 6) (hF : ∀ w v, w < nW → v < nW → follow (w * 6 + v) = nI (F w v)) (hb : ∀ w v, w < nW → v < nW → F w v < 2 ^ 31) (hc : ∀ k, k < 6 → now k = lN (ch k)) : ∃ t' n', f_X0_passDay N then_ (nI nW) now follow = some (t', n') ∧ ∀ k, k < 6 → n' k = lN (chS nW F ch k) := by
  obtain ⟨a', h1, h2⟩ := s_passDay_2 (N := N) hN hW hF hb hc N 0 then_ (by omega) (by omega) (fun k hk => absurd hk (Nat.not_lt_zero k))
  rw [show nI 0 = 0 from rfl] at h1
  refine ⟨a', va_cpy a' now 0 0 6, by unfold f_X0_passDay; rw [h1, z_ob2], ?_⟩
  intro k hk
  rw [pk_cpy_in (Nat.zero_le k) (by omega), Nat.zero_add, Nat.sub_zero]; exact h2 k hk
/-- the chances after some days; those that come to the shunned wind are dropped -/
def chD (nW : Nat) (F : Nat → Nat → Nat) (w sh : Nat) : Nat → Nat → Nat
  | 0 => fun k => if k = sh then 0 else if k = w then 1 else 0
  | d + 1 => fun k => if k = sh then 0 else chS nW F (chD nW F w sh d) k
theorem s_look_14 {N nW w sh d : Nat} {follow : Nat → Int32} {F : Nat → Nat → Nat} (hN : 100 < N) (hW : nW ≤ 6) (hd : d < 100) (hF : ∀ w v, w < nW → v < nW → follow (w * 6 + v) = nI (F w v)) (hb : ∀ w v, w < nW → v < nW → F w v < 2 ^ 31) : ∀ (n i : Nat) (now then_ : Nat → Int64), i ≤ d → d - i < n → (∀ k, k < 6 → now k = lN (chD nW F w sh i k)) → ∃ now' then', f_X0_lookAhead_14 N (nI nW) follow (nI d) (shI sh) n (nI i) now then_ = some (nI d, now', then') ∧ ∀ k, k < 6 → now' k = lN (chD nW F w sh d k) := by
  intro n
  induction n with
  | zero => intro i now then_ h1 h2; omega
  | succ n ih =>
    intro i now then_ h1 h2 ha
    rw [f_X0_lookAhead_14.eq_2]
    by_cases h : i < d
    · obtain ⟨t1, n1, h3, h4⟩ := s_passDay (N := N) (then_ := then_) hN hW hF hb ha
      obtain ⟨n2, h5, h6⟩ := s_shun (N := N) (sh := sh) h4
      obtain ⟨n3, t3, h7, h8⟩ := ih (i + 1) n2 t1 (by omega) (by omega) h6
      refine ⟨n3, t3, ?_, h8⟩
      simp (disch := omega) only [z_lit, z_le, z_add, if_neg, h3, z_ob2, h5, z_ob1, h7]
    · have : i = d := by omega
      subst this
      exact ⟨now, then_, by simp (disch := omega) only [z_le, if_pos], ha⟩
theorem s_look {N nW w sh d : Nat} {now then_ : Nat → Int64} {follow : Nat → Int32} {F : Nat → Nat → Nat} (hN : 100 < N) (hW : nW ≤ 6) (hw : w < 2 ^ 31) (hd : d < 100) (hF : ∀ w v, w < nW → v < nW → follow (w * 6 + v) = nI (F w v)) (hb : ∀ w v, w < nW → v < nW → F w v < 2 ^ 31) : ∃ now' then', f_X0_lookAhead N now then_ (nI nW) follow (nI w) (nI d) (shI sh) = some (now', then') ∧ ∀ k, k < 6 → now' k = lN (chD nW F w sh d k) := by
  obtain ⟨n1, h1, h2⟩ := s_begin (N := N) hw hN now
  obtain ⟨n2, h3, h4⟩ := s_shun (N := N) (sh := sh) h2
  obtain ⟨n3, t3, h5, h6⟩ := s_look_14 (N := N) (w := w) (sh := sh) hN hW hd hF hb N 0 n2 then_ (by omega) (by omega) h4
  rw [show nI 0 = 0 from rfl] at h5
  exact ⟨n3, t3, by unfold f_X0_lookAhead; rw [h1, z_ob1, h3, z_ob1, h5, z_ob3], h6⟩
theorem s_of {N w : Nat} {now : Nat → Int64} (hw : w < 6) : f_X0_of N now (nI w) = some (now w) := by
  unfold f_X0_of
  simp (disch := omega) only [z_lit, z_lt, z_le, z_gIx, z_cl, if_neg]
theorem s_sum_4 {N : Nat} {now : Nat → Int64} {ch : Nat → Nat} (hc : ∀ k, k < 6 → now k = lN (ch k)) : ∀ (n i a : Nat), i ≤ 6 → 6 - i < n → a = sm i ch → f_X0_sum_4 N now n (nI i) (lN a) = some (nI 6, lN (sm 6 ch)) := by
  intro n
  induction n with
  | zero => intro i a h1 h2; omega
  | succ n ih =>
    intro i a h1 h2 ha
    rw [f_X0_sum_4.eq_2]
    by_cases h : i < 6
    · have := ih (i + 1) (a + ch i) (by omega) (by omega) (by rw [ha, sm_s])
      simp (disch := omega) only [z_lit, z_le, z_gIx, z_cl, z_add, if_neg, hc, lN_add, this]
    · have : i = 6 := by omega
      subst this
      subst ha
      simp (disch := omega) only [z_lit, z_le, if_pos]
theorem s_sum {N : Nat} {now : Nat → Int64} {ch : Nat → Nat} (hN : 100 < N) (hc : ∀ k, k < 6 → now k = lN (ch k)) : f_X0_sum N now = some (lN (sm 6 ch)) := by
  have := s_sum_4 (N := N) hc N 0 0 (by omega) (by omega) rfl
  rw [show nI 0 = 0 from rfl, show lN 0 = 0 from rfl] at this
  unfold f_X0_sum; rw [this, z_ob2]
/-- what comes down at a place -/
def chL (nW : Nat) (L : Nat → Nat → Nat) (ch : Nat → Nat) (r : Nat) : Nat := sm nW (fun w => ch w * L w r)
theorem s_coming_5 {N nW r : Nat} {now : Nat → Int64} {land : Nat → Int32} {L : Nat → Nat → Nat} {ch : Nat → Nat} (hW : nW ≤ 6) (hr : r < 9) (hL : ∀ w r, w < nW → r < 9 → land (w * 9 + r) = nI (L w r)) (hb : ∀ w r, w < nW → r < 9 → L w r < 2 ^ 31) (hc : ∀ k, k < 6 → now k = lN (ch k)) : ∀ (n i a : Nat), i ≤ nW → nW - i < n → a = sm i (fun w => ch w * L w r) → f_X0_comingDown_5 N (nI nW) now land (nI r) n (nI i) (lN a) = some (nI nW, lN (chL nW L ch r)) := by
  intro n
  induction n with
  | zero => intro i a h1 h2; omega
  | succ n ih =>
    intro i a h1 h2 ha
    rw [f_X0_comingDown_5.eq_2]
    by_cases h : i < nW
    · have hbb := hb i r h hr
      have := ih (i + 1) (a + ch i * L i r) (by omega) (by omega) (by rw [ha, sm_s])
      simp (disch := first | omega | assumption) only [z_lit, z_le, z_gIx, z_cl, z_add, if_neg, s_land hW hL, z_ob1, hc, z_l, lN_mul, lN_add, this]
    · have : i = nW := by omega
      subst this
      subst ha
      simp (disch := omega) only [z_le, if_pos]
      rfl
theorem s_coming {N nW r : Nat} {now : Nat → Int64} {land : Nat → Int32} {L : Nat → Nat → Nat} {ch : Nat → Nat} (hN : 100 < N) (hW : nW ≤ 6) (hr : r < 9) (hL : ∀ w r, w < nW → r < 9 → land (w * 9 + r) = nI (L w r)) (hb : ∀ w r, w < nW → r < 9 → L w r < 2 ^ 31) (hc : ∀ k, k < 6 → now k = lN (ch k)) : f_X0_comingDown N (nI nW) now land (nI r) = some (lN (chL nW L ch r)) := by
  have := s_coming_5 (N := N) hW hr hL hb hc N 0 0 (by omega) (by omega) rfl
  rw [show nI 0 = 0 from rfl, show lN 0 = 0 from rfl] at this
  unfold f_X0_comingDown; rw [this, z_ob2]
theorem s_hasRegion {N nR r : Nat} (hR : nR < 2 ^ 31) (hr : r < 2 ^ 31) : f_X5_hasRegion N (nI nR) (nI r) = some (nI (if r < nR then 1 else 0)) := by
  unfold f_X5_hasRegion
  by_cases h : r < nR
  · simp (disch := omega) only [z_lit, z_lt, z_le, if_pos, if_neg]
  · simp (disch := omega) only [z_lit, z_lt, z_le, if_pos, if_neg]
theorem s_landed {N nW nR r : Nat} {now : Nat → Int64} {land risk : Nat → Int32} {L : Nat → Nat → Nat} {ch kr : Nat → Nat} (hN : 100 < N) (hW : nW ≤ 6) (hR : nR ≤ 8) (hr : r < nR) (hL : ∀ w r, w < nW → r < 9 → land (w * 9 + r) = nI (L w r)) (hb : ∀ w r, w < nW → r < 9 → L w r < 2 ^ 31) (hc : ∀ k, k < 6 → now k = lN (ch k)) (hk : ∀ k, k < nR → risk k = nI (kr k) ∧ kr k ≤ 10) : f_X0_landed N (nI nR) (nI nW) now land risk (nI r) = some (lN (chL nW L ch r * (10 - kr r))) := by
  unfold f_X0_landed
  rw [s_hasRegion (by omega) (by omega), z_ob1]
  have h1 := (hk r hr).2
  have h3 := (hk r hr).1
  have h2 := s_coming (N := N) (r := r) hN hW (by omega) hL hb hc
  simp (disch := omega) only [z_lit, z_eq, z_gIx, z_cl, h2, z_ob1, h3, z_sub, z_l, lN_mul, if_pos, if_neg]
theorem s_delivered_5 {N nW nR : Nat} {now : Nat → Int64} {land risk : Nat → Int32} {L : Nat → Nat → Nat} {ch kr : Nat → Nat} (hN : 100 < N) (hW : nW ≤ 6) (hR : nR ≤ 8) (hL : ∀ w r, w < nW → r < 9 → land (w * 9 + r) = nI (L w r)) (hb : ∀ w r, w < nW → r < 9 → L w r < 2 ^ 31) (hc : ∀ k, k < 6 → now k = lN (ch k)) (hk : ∀ k, k < nR → risk k = nI (kr k) ∧ kr k ≤ 10) : ∀ (n i a : Nat), i ≤ nR → nR - i < n → a = sm i (fun r => chL nW L ch r * (10 - kr r)) → f_X0_delivered_5 N (nI nR) (nI nW) now land risk n (nI i) (lN a) = some (nI nR, lN (sm nR (fun r => chL nW L ch r * (10 - kr r)))) := by
  intro n
  induction n with
  | zero => intro i a h1 h2; omega
  | succ n ih =>
    intro i a h1 h2 ha
    rw [f_X0_delivered_5.eq_2]
    by_cases h : i < nR
    · have h3 := s_landed (N := N) hN hW hR h hL hb hc hk
      have := ih (i + 1) (a + chL nW L ch i * (10 - kr i)) (by omega) (by omega) (by rw [ha, sm_s])
      simp (disch := omega) only [z_lit, z_le, z_add, if_neg, h3, z_ob1, lN_add, this]
    · have : i = nR := by omega
      subst this
      subst ha
      simp (disch := omega) only [z_le, if_pos]
theorem s_delivered {N nW nR : Nat} {now : Nat → Int64} {land risk : Nat → Int32} {L : Nat → Nat → Nat} {ch kr : Nat → Nat} (hN : 100 < N) (hW : nW ≤ 6) (hR : nR ≤ 8) (hL : ∀ w r, w < nW → r < 9 → land (w * 9 + r) = nI (L w r)) (hb : ∀ w r, w < nW → r < 9 → L w r < 2 ^ 31) (hc : ∀ k, k < 6 → now k = lN (ch k)) (hk : ∀ k, k < nR → risk k = nI (kr k) ∧ kr k ≤ 10) : f_X0_delivered N (nI nR) (nI nW) now land risk = some (lN (sm nR (fun r => chL nW L ch r * (10 - kr r)))) := by
  have := s_delivered_5 (N := N) hN hW hR hL hb hc hk N 0 0 (by omega) (by omega) rfl
  rw [show nI 0 = 0 from rfl, show lN 0 = 0 from rfl] at this
  unfold f_X0_delivered; rw [this, z_ob2]
/-- the numerator of the chance of an answer with p pigeons -/
def chA (nW nR : Nat) (L : Nat → Nat → Nat) (kr kc : Nat → Nat) (p : Nat) (ch : Nat → Nat) : Nat := sm nR (fun r => chL nW L ch r * (10 - kr r) * (10 ^ p - (10 - kc r) ^ p))
theorem s_answered_5 {N nW nR p : Nat} {now : Nat → Int64} {land risk comeback : Nat → Int32} {L : Nat → Nat → Nat} {ch kr kc : Nat → Nat} (hN : 100 < N) (hN2 : N < 2 ^ 31) (hp : p ≤ 4) (hW : nW ≤ 6) (hR : nR ≤ 8) (hL : ∀ w r, w < nW → r < 9 → land (w * 9 + r) = nI (L w r)) (hb : ∀ w r, w < nW → r < 9 → L w r < 2 ^ 31) (hc : ∀ k, k < 6 → now k = lN (ch k)) (hk : ∀ k, k < nR → risk k = nI (kr k) ∧ kr k ≤ 10) (hm : ∀ k, k < nR → comeback k = nI (kc k) ∧ kc k ≤ 10) : ∀ (n i a : Nat), i ≤ nR → nR - i < n → a = sm i (fun r => chL nW L ch r * (10 - kr r) * (10 ^ p - (10 - kc r) ^ p)) → f_X0_answered_5 N (nI nR) comeback (nI nW) now land risk (nI p) n (nI i) (lN a) = some (nI nR, lN (chA nW nR L kr kc p ch)) := by
  intro n
  induction n with
  | zero => intro i a h1 h2; omega
  | succ n ih =>
    intro i a h1 h2 ha
    rw [f_X0_answered_5.eq_2]
    by_cases h : i < nR
    · have h3 := s_landed (N := N) hN hW hR h hL hb hc hk
      obtain ⟨h4, h5⟩ := hm i h
      have h6 := s_power (N := N) (b := 10 - kc i) (e := p) (by omega) (by omega) hN2
      have h7 := s_power (N := N) (b := 10) (e := p) (by omega) (by omega) hN2
      rw [show nI 10 = 10 from rfl] at h7
      have h8 : (10 - kc i) ^ p ≤ 10 ^ p := Nat.pow_le_pow_left (by omega) p
      have := ih (i + 1) (a + chL nW L ch i * (10 - kr i) * (10 ^ p - (10 - kc i) ^ p)) (by omega) (by omega) (by rw [ha, sm_s])
      have h9 : (10 : Int32) - nI (kc i) = nI (10 - kc i) := z_sub (a := 10) h5
      have h10 : nI i + 1 = nI (i + 1) := nI_1 i
      rw [← h10] at this
      simp (disch := first | omega | assumption) only [z_le, z_gIx, z_cl, if_neg, h4, h9, h6, h7, h3, z_ob1, lN_sub, lN_mul, lN_add, this]
    · have : i = nR := by omega
      subst this
      subst ha
      simp (disch := omega) only [z_le, if_pos]
      rfl
theorem s_answered {N nW nR p : Nat} {now : Nat → Int64} {land risk comeback : Nat → Int32} {L : Nat → Nat → Nat} {ch kr kc : Nat → Nat} (hN : 100 < N) (hN2 : N < 2 ^ 31) (hp : p ≤ 4) (hW : nW ≤ 6) (hR : nR ≤ 8) (hL : ∀ w r, w < nW → r < 9 → land (w * 9 + r) = nI (L w r)) (hb : ∀ w r, w < nW → r < 9 → L w r < 2 ^ 31) (hc : ∀ k, k < 6 → now k = lN (ch k)) (hk : ∀ k, k < nR → risk k = nI (kr k) ∧ kr k ≤ 10) (hm : ∀ k, k < nR → comeback k = nI (kc k) ∧ kc k ≤ 10) : f_X0_answered N (nI nR) comeback (nI nW) now land risk (nI p) = some (lN (chA nW nR L kr kc p ch)) := by
  have := s_answered_5 (N := N) hN hN2 hp hW hR hL hb hc hk hm N 0 0 (by omega) (by omega) rfl
  rw [show nI 0 = 0 from rfl, show lN 0 = 0 from rfl] at this
  unfold f_X0_answered; rw [this, z_ob2]
