/-- draws -/
def nx (x : Nat) : Nat := (x * 1103515245 + 12345) % 2147483648
def dr (x : Nat) : Nat := nx x / 65536 % 10
theorem nx_lt (x : Nat) : nx x < 2 ^ 31 := Nat.mod_lt _ (by omega)
theorem dr_lt (x : Nat) : dr x < 10 := Nat.mod_lt _ (by omega)
theorem y_rem {a d : Nat} (ha : a < 2 ^ 63) (h0 : 0 < d) (hd : d < 2 ^ 63) : lN a - lN a / lN d * lN d = lN (a % d) := by
  rw [y_div ha h0 hd, lN_mul, lN_sub (Nat.div_mul_le_self a d)]
  exact congrArg lN (by have := Nat.div_add_mod' a d; omega)
theorem s_draw {N x : Nat} (hx : x < 2 ^ 31) : f_X6_draw N (lN x) = some (nI (dr x), lN (nx x)) := by
  unfold f_X6_draw
  have e1 : lN x * 1103515245 + 12345 = lN (x * 1103515245 + 12345) := by
    rw [show (1103515245 : Int64) = lN 1103515245 from rfl, show (12345 : Int64) = lN 12345 from rfl, lN_mul, lN_add]
  have e2 : lN (x * 1103515245 + 12345) - lN (x * 1103515245 + 12345) / 2147483648 * 2147483648 = lN (nx x) := y_rem (d := 2147483648) (by omega) (by omega) (by omega)
  have h := nx_lt x
  have e3 : lN (nx x) / 65536 = lN (nx x / 65536) := y_div (d := 65536) (by omega) (by omega) (by omega)
  have e4 : lN (nx x / 65536) - lN (nx x / 65536) / 10 * 10 = lN (dr x) := y_rem (d := 10) (by omega) (by omega) (by omega)
  rw [e1, e2, e3, e4, lN_i]
theorem m_draw {N x : Nat} {now : Nat → Int32} (hx : x < 2 ^ 31) (h2 : now 2 = nI x) : f_X9_draw N now = some (nI (dr x), upd now 2 (nI (nx x))) := by
  unfold f_X9_draw
  have c2 : (2 : Int32).toNatClampNeg = 2 := rfl
  have e1 : lN x * 1103515245 + 12345 = lN (x * 1103515245 + 12345) := by
    rw [show (1103515245 : Int64) = lN 1103515245 from rfl, show (12345 : Int64) = lN 12345 from rfl, lN_mul, lN_add]
  have e2 : lN (x * 1103515245 + 12345) - lN (x * 1103515245 + 12345) / 2147483648 * 2147483648 = lN (nx x) := y_rem (d := 2147483648) (by omega) (by omega) (by omega)
  have h := nx_lt x
  have e3 : lN (nx x) / 65536 = lN (nx x / 65536) := y_div (d := 65536) (by omega) (by omega) (by omega)
  have e4 : lN (nx x / 65536) - lN (nx x / 65536) / 10 * 10 = lN (dr x) := y_rem (d := 10) (by omega) (by omega) (by omega)
  have i2 : ∀ k, gIx (γ := Int32 × (Nat → Int32)) 2 213 k = k := fun k => z_gIx (i := 2) (by omega) (by omega)
  rw [i2, i2, c2, h2, z_l hx, e1, e2, e3, e4, lN_i, lN_i]
/-- a copy within an array, downwards -/
theorem m_cpal_3 {N a b m sz : Nat} (hba : b ≤ a) (hm : a + m ≤ sz) (hs : sz < 2 ^ 20) : ∀ (n i : Nat) (y y0 : Nat → Int32), i ≤ m → m - i < n → (∀ q, y q = if b ≤ q ∧ q < b + i then y0 (q - b + a) else y0 q) → ∃ y', f_X9_copies_al_3 N (nI a) (nI b) (nI m) sz n (nI i) y = some (nI m, y') ∧ ∀ q, y' q = if b ≤ q ∧ q < b + m then y0 (q - b + a) else y0 q := by
  intro n
  induction n with
  | zero => intro i y y0 h1 h2; omega
  | succ n ih =>
    intro i y y0 h1 h2 hy
    rw [f_X9_copies_al_3.eq_2]
    by_cases h : i < m
    · obtain ⟨y', h3, h4⟩ := ih (i + 1) (upd y (b + i) (y (a + i))) y0 (by omega) (by omega) (by
        intro q
        by_cases e : q = b + i
        · subst e
          rw [pk_us, if_pos (by omega), hy (a + i), if_neg (by omega)]
          exact congrArg y0 (by omega)
        · rw [pk_un e, hy q]
          by_cases e2 : b ≤ q ∧ q < b + i
          · rw [if_pos e2, if_pos (by omega)]
          · rw [if_neg e2, if_neg (by omega)])
      refine ⟨y', ?_, h4⟩
      rw [← h3]
      have e1 : nI i + 1 = nI (i + 1) := nI_1 i
      simp (disch := omega) only [e1, z_le, z_add, z_gIx, z_cl, if_neg]
    · have : i = m := by omega
      subst this
      exact ⟨y, by simp (disch := omega) only [z_le, if_pos], hy⟩
theorem m_cpal {N a b m sz : Nat} (hba : b ≤ a) (hm : a + m ≤ sz) (hs : sz < 2 ^ 20) (hN : 3000 < N) (hm2 : m < 3000) (y : Nat → Int32) : ∃ y', f_X9_copies_al N sz y (nI a) (nI b) (nI m) = some y' ∧ ∀ q, y' q = if b ≤ q ∧ q < b + m then y (q - b + a) else y q := by
  obtain ⟨y', h1, h2⟩ := m_cpal_3 (N := N) hba hm hs N 0 y y (by omega) (by omega) (fun q => by rw [if_neg (by omega)])
  unfold f_X9_copies_al
  exact ⟨y', ob2_of h1, h2⟩
/-- a copy from another array -/
theorem m_cp_3 {N a b m sz sy : Nat} {x : Nat → Int32} (hm : a + m ≤ sz) (hm2 : b + m ≤ sy) (hs : sz < 2 ^ 20) (hsy : sy < 2 ^ 20) : ∀ (n i : Nat) (y y0 : Nat → Int32), i ≤ m → m - i < n → (∀ q, y q = if b ≤ q ∧ q < b + i then x (q - b + a) else y0 q) → ∃ y', f_X9_copies_3 N x (nI a) (nI b) (nI m) sz sy n (nI i) y = some (nI m, y') ∧ ∀ q, y' q = if b ≤ q ∧ q < b + m then x (q - b + a) else y0 q := by
  intro n
  induction n with
  | zero => intro i y y0 h1 h2; omega
  | succ n ih =>
    intro i y y0 h1 h2 hy
    rw [f_X9_copies_3.eq_2]
    by_cases h : i < m
    · obtain ⟨y', h3, h4⟩ := ih (i + 1) (upd y (b + i) (x (a + i))) y0 (by omega) (by omega) (by
        intro q
        by_cases e : q = b + i
        · subst e
          rw [pk_us, if_pos (by omega)]
          exact congrArg x (by omega)
        · rw [pk_un e, hy q]
          by_cases e2 : b ≤ q ∧ q < b + i
          · rw [if_pos e2, if_pos (by omega)]
          · rw [if_neg e2, if_neg (by omega)])
      refine ⟨y', ?_, h4⟩
      rw [← h3]
      have e1 : nI i + 1 = nI (i + 1) := nI_1 i
      simp (disch := omega) only [e1, z_le, z_add, z_gIx, z_cl, if_neg]
    · have : i = m := by omega
      subst this
      exact ⟨y, by simp (disch := omega) only [z_le, if_pos], hy⟩
theorem m_cp {N a b m sz sy : Nat} (hm : a + m ≤ sz) (hm2 : b + m ≤ sy) (hs : sz < 2 ^ 20) (hsy : sy < 2 ^ 20) (hN : 3000 < N) (hm3 : m < 3000) (x y : Nat → Int32) : ∃ y', f_X9_copies N sz sy x y (nI a) (nI b) (nI m) = some y' ∧ ∀ q, y' q = if b ≤ q ∧ q < b + m then x (q - b + a) else y q := by
  obtain ⟨y', h1, h2⟩ := m_cp_3 (N := N) (x := x) hm hm2 hs hsy N 0 y y (by omega) (by omega) (fun q => by rw [if_neg (by omega)])
  unfold f_X9_copies
  exact ⟨y', ob2_of h1, h2⟩
/-- the journal: class -/
theorem s_drop_2 {N : Nat} : ∀ (n i : Nat) (k m d k0 m0 d0 : Nat → Int32), 1 ≤ i → i ≤ 16 → 16 - i < n → (∀ q, k q = if q + 1 < i then k0 (q + 1) else k0 q) → (∀ q, m q = if q + 1 < i then m0 (q + 1) else m0 q) → (∀ q, d q = if q + 1 < i then d0 (q + 1) else d0 q) → ∃ k' m' d', f_X1_dropOldest_2 N n (nI i) k m d = some (nI 16, k', m', d') ∧ (∀ q, k' q = if q + 1 < 16 then k0 (q + 1) else k0 q) ∧ (∀ q, m' q = if q + 1 < 16 then m0 (q + 1) else m0 q) ∧ (∀ q, d' q = if q + 1 < 16 then d0 (q + 1) else d0 q) := by
  intro n
  induction n with
  | zero => intro i k m d k0 m0 d0 h1 h2; omega
  | succ n ih =>
    intro i k m d k0 m0 d0 h0 h1 h2 hk hm hd
    rw [f_X1_dropOldest_2.eq_2]
    by_cases h : i < 16
    · have hu : ∀ (f f0 : Nat → Int32), (∀ q, f q = if q + 1 < i then f0 (q + 1) else f0 q) → ∀ q, upd f (i - 1) (f i) q = if q + 1 < i + 1 then f0 (q + 1) else f0 q := by
        intro f f0 hf q
        by_cases e : q = i - 1
        · subst e
          rw [pk_us, if_pos (by omega), hf i, if_neg (by omega)]
          exact congrArg f0 (by omega)
        · rw [pk_un e, hf q]
          by_cases e2 : q + 1 < i
          · rw [if_pos e2, if_pos (by omega)]
          · rw [if_neg e2, if_neg (by omega)]
      obtain ⟨k', m', d', h3, h4⟩ := ih (i + 1) _ _ _ k0 m0 d0 (by omega) (by omega) (by omega) (hu k k0 hk) (hu m m0 hm) (hu d d0 hd)
      refine ⟨k', m', d', ?_, h4⟩
      rw [← h3]
      have e1 : nI i + 1 = nI (i + 1) := nI_1 i
      have e2 : nI i - 1 = nI (i - 1) := z_sub (b := 1) (by omega)
      have e3 : (16 ≤ nI i) = (16 ≤ i) := z_le (a := 16) (by omega) (by omega)
      simp (disch := omega) only [e1, e2, e3, z_gIx, z_cl, if_neg]
    · have : i = 16 := by omega
      subst this
      exact ⟨k, m, d, if_pos (by decide), hk, hm, hd⟩
/-- the journal with c events -/
def JR (c : Nat) (jc : Int32) (jk jn jd now : Nat → Int32) : Prop :=
  jc = nI c ∧ now 164 = nI c ∧ c ≤ 16 ∧ ∀ j, j < c → jk j = now (165 + j) ∧ jn j = now (181 + j) ∧ jd j = now (197 + j)
theorem s_add {N c : Nat} {k m d : Nat → Int32} (hN : 100 < N) (hc : c ≤ 16) (x1 x2 x3 : Int32) : ∃ k' m' d', f_X1_add N (nI c) k m d x1 x2 x3 = some (nI (if c = 16 then 16 else c + 1), k', m', d') ∧ ∀ q, q < (if c = 16 then 16 else c + 1) → (k' q = if q + 1 = (if c = 16 then 16 else c + 1) then x1 else k (if c = 16 then q + 1 else q)) ∧ (m' q = if q + 1 = (if c = 16 then 16 else c + 1) then x2 else m (if c = 16 then q + 1 else q)) ∧ (d' q = if q + 1 = (if c = 16 then 16 else c + 1) then x3 else d (if c = 16 then q + 1 else q)) := by
  unfold f_X1_add
  have hj : ∀ (e : Nat) (k m d : Nat → Int32), e < 16 → f_X1_add_j13 N x1 x2 x3 (nI e) k m d = some (nI (e + 1), upd k e x1, upd m e x2, upd d e x3) := by
    intro e k m d he
    unfold f_X1_add_j13
    have e1 : nI e + 1 = nI (e + 1) := nI_1 e
    have e3 : (16 ≤ nI e) = (16 ≤ e) := z_le (a := 16) (by omega) (by omega)
    simp (disch := omega) only [e1, e3, z_neg, z_gIx, z_cl, if_neg, if_false]
  have e0 : (nI c < 16) = (c < 16) := z_lt (b := 16) (by omega) (by omega)
  simp only [e0]
  by_cases h : c = 16
  · obtain ⟨k', m', d', h1, h2, h3, h4⟩ := s_drop_2 (N := N) N 1 k m d k m d (by omega) (by omega) (by omega) (fun q => by rw [if_neg (by omega)]) (fun q => by rw [if_neg (by omega)]) (fun q => by rw [if_neg (by omega)])
    rw [show nI 1 = 1 from rfl] at h1
    simp only [if_pos h]
    rw [if_neg (by omega)]
    unfold f_X1_dropOldest
    rw [h1, z_ob4, z_ob4, show (15 : Int32) = nI 15 from rfl, hj 15 _ _ _ (by omega)]
    refine ⟨_, _, _, rfl, fun q hq => ⟨?_, ?_, ?_⟩⟩
    · by_cases e : q = 15
      · subst e; rw [pk_us, if_pos rfl]
      · rw [pk_un e, if_neg (by omega), h2 q, if_pos (by omega)]
    · by_cases e : q = 15
      · subst e; rw [pk_us, if_pos rfl]
      · rw [pk_un e, if_neg (by omega), h3 q, if_pos (by omega)]
    · by_cases e : q = 15
      · subst e; rw [pk_us, if_pos rfl]
      · rw [pk_un e, if_neg (by omega), h4 q, if_pos (by omega)]
  · simp only [if_neg h]
    rw [if_pos (by omega), hj c k m d (by omega)]
    refine ⟨_, _, _, rfl, fun q hq => ⟨?_, ?_, ?_⟩⟩
    · by_cases e : q = c
      · subst e; rw [pk_us, if_pos rfl]
      · rw [pk_un e, if_neg (by omega)]
    · by_cases e : q = c
      · subst e; rw [pk_us, if_pos rfl]
      · rw [pk_un e, if_neg (by omega)]
    · by_cases e : q = c
      · subst e; rw [pk_us, if_pos rfl]
      · rw [pk_un e, if_neg (by omega)]
/-- the journal: model -/
theorem m_notes_j {N e : Nat} {now : Nat → Int32} (he : e < 16) (h : now 164 = nI e) (x1 x2 : Int32) : f_X9_notes_j82 N x1 x2 now = some (upd (upd (upd (upd now (165 + e) x1) (181 + e) x2) (197 + e) (now 0)) 164 (nI (e + 1))) := by
  unfold f_X9_notes_j82
  have c164 : (164 : Int32).toNatClampNeg = 164 := rfl
  have i164 : ∀ k, gIx (γ := Nat → Int32) 164 213 k = k := fun k => z_gIx (i := 164) (by omega) (by omega)
  have c0 : (0 : Int32).toNatClampNeg = 0 := rfl
  have i0 : ∀ k, gIx (γ := Nat → Int32) 0 213 k = k := fun k => z_gIx (i := 0) (by omega) (by omega)
  have a1 : (165 : Int32) + nI e = nI (165 + e) := by rw [show (165 : Int32) = nI 165 from rfl, z_add]
  have a2 : (181 : Int32) + nI e = nI (181 + e) := by rw [show (181 : Int32) = nI 181 from rfl, z_add]
  have a3 : (197 : Int32) + nI e = nI (197 + e) := by rw [show (197 : Int32) = nI 197 from rfl, z_add]
  have e1 : nI e + 1 = nI (e + 1) := nI_1 e
  have u1 : upd now (165 + e) x1 164 = nI e := by rw [pk_un (by omega), h]
  have u2 : upd (upd now (165 + e) x1) (181 + e) x2 164 = nI e := by rw [pk_un (by omega), u1]
  have u3 : upd (upd now (165 + e) x1) (181 + e) x2 0 = now 0 := by rw [pk_un (by omega), pk_un (by omega)]
  have u4 : upd (upd (upd now (165 + e) x1) (181 + e) x2) (197 + e) (now 0) 164 = nI e := by rw [pk_un (by omega), u2]
  simp (disch := omega) only [c164, i164, c0, i0, h, a1, a2, a3, e1, z_cl, z_gIx, u1, u2, u3, u4]
theorem m_notes {N c : Nat} {now : Nat → Int32} (hN : 3000 < N) (hc : c ≤ 16) (h : now 164 = nI c) (x1 x2 : Int32) : ∃ now', f_X9_notes N now x1 x2 = some now' ∧ now' 164 = nI (if c = 16 then 16 else c + 1) ∧ (∀ i, i < 164 → now' i = now i) ∧ ∀ q, q < (if c = 16 then 16 else c + 1) → (now' (165 + q) = if q + 1 = (if c = 16 then 16 else c + 1) then x1 else now (165 + (if c = 16 then q + 1 else q))) ∧ (now' (181 + q) = if q + 1 = (if c = 16 then 16 else c + 1) then x2 else now (181 + (if c = 16 then q + 1 else q))) ∧ (now' (197 + q) = if q + 1 = (if c = 16 then 16 else c + 1) then now 0 else now (197 + (if c = 16 then q + 1 else q))) := by
  unfold f_X9_notes
  have c164 : (164 : Int32).toNatClampNeg = 164 := rfl
  have i164 : ∀ k, gIx (γ := Nat → Int32) 164 213 k = k := fun k => z_gIx (i := 164) (by omega) (by omega)
  have e0 : (nI c = 16) = (c = 16) := z_eq (b := 16) (by omega) (by omega)
  simp only [c164, i164, h, e0]
  by_cases hh : c = 16
  · subst hh
    simp only [if_true]
    have e1 : nI 16 - 1 = nI 15 := by decide
    rw [e1]
    obtain ⟨n1, p1, q1⟩ := m_cpal (N := N) (a := 166) (b := 165) (m := 15) (sz := 213) (by omega) (by omega) (by omega) hN (by omega) (upd now 164 (nI 15))
    obtain ⟨n2, p2, q2⟩ := m_cpal (N := N) (a := 182) (b := 181) (m := 15) (sz := 213) (by omega) (by omega) (by omega) hN (by omega) n1
    obtain ⟨n3, p3, q3⟩ := m_cpal (N := N) (a := 198) (b := 197) (m := 15) (sz := 213) (by omega) (by omega) (by omega) hN (by omega) n2
    rw [show nI 166 = 166 from rfl, show nI 165 = 165 from rfl, show nI 15 = 15 from rfl] at p1
    rw [show nI 182 = 182 from rfl, show nI 181 = 181 from rfl, show nI 15 = 15 from rfl] at p2
    rw [show nI 198 = 198 from rfl, show nI 197 = 197 from rfl, show nI 15 = 15 from rfl] at p3
    rw [show nI 15 = 15 from rfl, p1, z_ob1, p2, z_ob1, p3, z_ob1]
    have f3 : ∀ i, i ≤ 164 → n3 i = upd now 164 (nI 15) i := by
      intro i hi
      rw [q3 i, if_neg (by omega), q2 i, if_neg (by omega), q1 i, if_neg (by omega)]
    have h15 : n3 164 = nI 15 := by rw [f3 164 (by omega), pk_us]
    rw [m_notes_j (by omega) h15]
    refine ⟨_, rfl, by rw [pk_us], fun i hi => ?_, fun q hq => ⟨?_, ?_, ?_⟩⟩
    · rw [pk_un (by omega), pk_un (by omega), pk_un (by omega), pk_un (by omega), f3 i (by omega), pk_un (by omega)]
    · by_cases e : q = 15
      · subst e; rw [pk_un (by omega), pk_un (by omega), pk_un (by omega), pk_us, if_pos rfl]
      · rw [pk_un (by omega), pk_un (by omega), pk_un (by omega), pk_un (by omega), if_neg (by omega), q3, if_neg (by omega), q2, if_neg (by omega), q1, if_pos (by omega), pk_un (by omega)]
        exact congrArg now (by omega)
    · by_cases e : q = 15
      · subst e; rw [pk_un (by omega), pk_un (by omega), pk_us, if_pos rfl]
      · rw [pk_un (by omega), pk_un (by omega), pk_un (by omega), pk_un (by omega), if_neg (by omega), q3, if_neg (by omega), q2, if_pos (by omega), q1, if_neg (by omega), pk_un (by omega)]
        exact congrArg now (by omega)
    · by_cases e : q = 15
      · subst e; rw [pk_un (by omega), pk_us, if_pos rfl, f3 0 (by omega), pk_un (by omega)]
      · rw [pk_un (by omega), pk_un (by omega), pk_un (by omega), pk_un (by omega), if_neg (by omega), q3, if_pos (by omega), q2, if_neg (by omega), q1, if_neg (by omega), pk_un (by omega)]
        exact congrArg now (by omega)
  · simp only [if_neg hh]
    rw [m_notes_j (by omega) h]
    refine ⟨_, rfl, by rw [pk_us], fun i hi => ?_, fun q hq => ⟨?_, ?_, ?_⟩⟩
    · rw [pk_un (by omega), pk_un (by omega), pk_un (by omega), pk_un (by omega)]
    · by_cases e : q = c
      · subst e; rw [pk_un (by omega), pk_un (by omega), pk_un (by omega), pk_us, if_pos rfl]
      · rw [pk_un (by omega), pk_un (by omega), pk_un (by omega), pk_un (by omega), if_neg (by omega)]
    · by_cases e : q = c
      · subst e; rw [pk_un (by omega), pk_un (by omega), pk_us, if_pos rfl]
      · rw [pk_un (by omega), pk_un (by omega), pk_un (by omega), pk_un (by omega), if_neg (by omega)]
    · by_cases e : q = c
      · subst e; rw [pk_un (by omega), pk_us, if_pos rfl]
      · rw [pk_un (by omega), pk_un (by omega), pk_un (by omega), pk_un (by omega), if_neg (by omega)]
/-- both write the same event -/
theorem e_note {N c : Nat} {jc day : Int32} {jk jn jd now : Nat → Int32} (hN : 3000 < N) (hj : JR c jc jk jn jd now) (hd : now 0 = day) (x1 x2 : Int32) : ∃ c' jk' jn' jd' now', f_X1_add N jc jk jn jd x1 x2 day = some (nI c', jk', jn', jd') ∧ f_X9_notes N now x1 x2 = some now' ∧ JR c' (nI c') jk' jn' jd' now' ∧ ∀ i, i < 164 → now' i = now i := by
  obtain ⟨rfl, h2, h3, h4⟩ := hj
  obtain ⟨k', m', d', p1, p2⟩ := s_add (N := N) (k := jk) (m := jn) (d := jd) (by omega) h3 x1 x2 day
  obtain ⟨n', q1, q2, q3, q4⟩ := m_notes (N := N) hN h3 h2 x1 x2
  refine ⟨_, k', m', d', n', p1, q1, ⟨rfl, q2, by split <;> omega, fun j hj => ?_⟩, q3⟩
  obtain ⟨a1, a2, a3⟩ := p2 j hj
  obtain ⟨b1, b2, b3⟩ := q4 j hj
  rw [a1, a2, a3, b1, b2, b3, hd]
  by_cases e : j + 1 = (if c = 16 then 16 else c + 1)
  · simp only [if_pos e, and_self]
  · simp only [if_neg e]
    have hlt : (if c = 16 then j + 1 else j) < c := by
      by_cases e2 : c = 16
      · simp only [if_pos e2] at e hj ⊢; omega
      · simp only [if_neg e2] at e hj ⊢; omega
    obtain ⟨c1, c2, c3⟩ := h4 _ hlt
    exact ⟨c1, c2, c3⟩
