section
variable {N e : Nat} {B : Nat → Nat} {c m : Nat → Int32} {S Q K V : Nat → Nat}
theorem lq_in (hN : 0 < N) {s : Nat} (hs : s ≤ e) : s ≤ lQ B e N s ∧ lQ B e N s ≤ e ∧ lK B e N s ≤ 4 ∧ (lK B e N s ≠ 0 → s < lQ B e N s) ∧ (lK B e N s = 2 → vl B s (lQ B e N s - s) ≤ 9999) := by
  unfold lQ lK
  by_cases h : s < e
  · simp only [if_pos h]
    by_cases hx : 97 ≤ B s ∧ B s ≤ 122
    · obtain ⟨r1, r2, r3⟩ := rn_in (B := B) (e := e) (lo := 97) (hi := 122) N s hs
      have r4 := rn_pos (B := B) h hN hx
      rw [if_pos hx, if_pos hx]
      refine ⟨r1, r2, by split <;> omega, fun _ => r4, fun q => ?_⟩
      split at q <;> omega
    · rw [if_neg hx, if_neg hx]
      by_cases hy : 48 ≤ B s ∧ B s ≤ 57
      · obtain ⟨r1, r2, r3⟩ := rn_in (B := B) (e := e) (lo := 48) (hi := 57) N s hs
        have r4 := rn_pos (B := B) h hN hy
        rw [if_pos hy, if_pos hy]
        refine ⟨r1, r2, by split <;> omega, fun _ => r4, fun q => ?_⟩
        by_cases h4 : rn B e 48 57 N s - s ≤ 4
        · have h5 := vl_lt (B := B) (s := s) (rn B e 48 57 N s - s) (fun j hj => (r3 (s + j) (by omega) (by omega)).2)
          have h6 : 10 ^ (rn B e 48 57 N s - s) ≤ 10 ^ 4 := Nat.pow_le_pow_right (by omega) h4
          omega
        · rw [if_neg h4] at q; cases q
      · rw [if_neg hy, if_neg hy]
        refine ⟨by omega, by omega, by split <;> omega, fun _ => by omega, fun q => ?_⟩
        split at q <;> omega
  · simp only [if_neg h]
    exact ⟨Nat.le_refl _, hs, by omega, fun q => absurd rfl q, fun q => by cases q⟩
theorem sl_in : ∀ i, i < 8 → 0 < sLen.getD i 0 ∧ sLen.getD i 0 ≤ 7 := by decide
theorem w_eq {s i : Nat} (he : e ≤ 900) (hi : i < 8) (hcm : ∀ k, k < e → c k = m k) (hs : s + sLen.getD i 0 ≤ e) : ∀ (n k : Nat), k ≤ sLen.getD i 0 → sLen.getD i 0 - k + 1 < n → ∃ b : Int32, (b = 0 ∨ b = 1) ∧ f_X4_spells_20 N (nI s) c i n (nI k) = some b ∧ ∃ y, f_X9_isWord_32 N (nI s) m i n (nI k) 1 = some (y, b) := by
  obtain ⟨l0, l7⟩ := sl_in i hi
  intro n
  induction n with
  | zero => intro k h1 h2; omega
  | succ n ih =>
    intro k h1 h2
    rw [f_X4_spells_20.eq_2, f_X9_isWord_32.eq_2]
    by_cases h : k < sLen.getD i 0
    · have hle : ¬ nI (sLen.getD i 0) ≤ nI k := by rw [z_le (by omega) (by omega)]; omega
      rw [if_neg hle, if_neg hle, if_neg (show ¬ (1 : Int32) = 0 by decide), z_add, z_gIx (i := s + k) (n := 900) (by omega) (by omega), z_gIx (i := s + k) (n := 900) (by omega) (by omega), z_gIx (i := k) (by omega) (by omega), z_gIx (i := k) (by omega) (by omega), z_cl (n := s + k) (by omega), nI_1, ← hcm (s + k) (by omega)]
      by_cases hq : c (s + k) = sCh i (nI k)
      · rw [if_pos hq, if_pos hq]
        exact ih (k + 1) (by omega) (by omega)
      · rw [if_neg hq, if_neg hq]
        obtain ⟨n', rfl⟩ : ∃ n', n = n' + 1 := ⟨n - 1, by omega⟩
        refine ⟨0, Or.inl rfl, rfl, nI (k + 1), ?_⟩
        rw [f_X9_isWord_32.eq_2]
        split
        · rfl
        · rw [if_pos rfl]
    · have hle : nI (sLen.getD i 0) ≤ nI k := by rw [z_le (by omega) (by omega)]; omega
      rw [if_pos hle, if_pos hle]
      exact ⟨1, Or.inr rfl, rfl, _, rfl⟩
theorem w_no {s i : Nat} (hN : 0 < N) (hi : i < 8) : f_X9_isWord_j28 N (nI s) m i = some 0 := by
  obtain ⟨l0, l7⟩ := sl_in i hi
  obtain ⟨n', rfl⟩ : ∃ n', N = n' + 1 := ⟨N - 1, by omega⟩
  unfold f_X9_isWord_j28 f_X9_isWord_j29
  rw [f_X9_isWord_32.eq_2, show (0 : Int32) = nI 0 from rfl, if_neg (by rw [z_le (by omega) (by omega)]; omega), if_pos rfl, z_ob2]
  exact if_pos (Or.inl rfl)
theorem w_tok {s q k i : Nat} (hN : 3000 < N) (he : e ≤ 900) (hi : i < 8) (hcm : ∀ k, k < e → c k = m k) (hs : s ≤ q) (hq : q ≤ e) (hk : k ≤ 4) : ∃ b : Int32, (b = 0 ∨ b = 1) ∧ (k = 1 → f_X4_spells N (nI s) (nI q) c i = some b) ∧ f_X9_isWord N (nI s) (nI q) (nI k) m i = some (if k = 1 then b else 0) := by
  obtain ⟨l0, l7⟩ := sl_in i hi
  have e1 : (nI k = 1) = (k = 1) := z_eq (b := 1) (by omega) (by omega)
  unfold f_X4_spells f_X9_isWord
  rw [z_sub hs]
  have e2 : (nI (q - s) = nI (sLen.getD i 0)) = (q - s = sLen.getD i 0) := z_eq (by omega) (by omega)
  simp only [e1, e2]
  by_cases h1 : k = 1
  · simp only [if_pos h1]
    by_cases h2 : q - s = sLen.getD i 0
    · obtain ⟨b, b1, b2, y, b3⟩ := w_eq (N := N) (s := s) (c := c) (m := m) he hi hcm (by omega) N 0 (Nat.zero_le _) (by omega)
      rw [show nI 0 = 0 from rfl] at b2 b3
      rw [if_pos h2, if_pos h2]
      refine ⟨b, b1, fun _ => b2, ?_⟩
      unfold f_X9_isWord_j29
      rw [b3, z_ob2]
      unfold gBo
      rw [if_pos b1]
    · rw [if_neg h2, if_neg h2, w_no (by omega) hi]
      exact ⟨0, Or.inl rfl, fun _ => rfl, rfl⟩
  · simp only [if_neg h1]
    rw [w_no (by omega) hi]
    exact ⟨0, Or.inl rfl, fun q => absurd q h1, rfl⟩
/-- the tokens of a text, as both read them -/
def LX (N e : Nat) (c m : Nat → Int32) (S Q K V : Nat → Nat) : Prop := ∀ p, p ≤ e →
  (p ≤ S p ∧ S p ≤ Q p ∧ Q p ≤ e ∧ K p ≤ 4 ∧ (K p ≠ 0 → p < Q p) ∧ (K p = 2 → V p ≤ 9999)) ∧
  (∀ kind value : Int32, ∃ v', f_X4_nextToken N (nI e) (nI p) kind value c = some (nI (S p), nI (Q p), nI (K p), v') ∧ (K p = 2 → v' = nI (V p))) ∧
  (∃ w, f_X9_advance N (nI e) (nI p) m = some (nI (S p), nI (Q p), nI (K p), w) ∧ (K p = 2 → w = nI (V p))) ∧
  (∀ i, i < 8 → ∃ b : Int32, (b = 0 ∨ b = 1) ∧ (K p = 1 → f_X4_spells N (nI (S p)) (nI (Q p)) c i = some b) ∧ f_X9_isWord N (nI (S p)) (nI (Q p)) (nI (K p)) m i = some (if K p = 1 then b else 0))
theorem lx_ex (hN : 3000 < N) (he : e ≤ 900) (h : ∀ k, k < e → ∃ b, b < 256 ∧ c k = yB b ∧ m k = yB b) : ∃ S Q K V, LX N e c m S Q K V := by
  obtain ⟨B, hB⟩ : ∃ B : Nat → Nat, ∀ k, k < e → B k < 256 ∧ c k = yB (B k) ∧ m k = yB (B k) := by
    refine ⟨fun k => if hk : k < e then (h k hk).choose else 0, fun k hk => ?_⟩
    simp only [dif_pos hk]
    exact (h k hk).choose_spec
  have hc : ∀ k, k < e → B k < 256 ∧ c k = yB (B k) := fun k hk => ⟨(hB k hk).1, (hB k hk).2.1⟩
  have hm : ∀ k, k < e → B k < 256 ∧ m k = yB (B k) := fun k hk => ⟨(hB k hk).1, (hB k hk).2.2⟩
  refine ⟨fun p => skp B e N p, fun p => lQ B e N (skp B e N p), fun p => lK B e N (skp B e N p), fun p => vl B (skp B e N p) (lQ B e N (skp B e N p) - skp B e N p), fun p hp => ?_⟩
  obtain ⟨s1, s2⟩ := skp_in (B := B) (e := e) N p hp
  obtain ⟨a1, a2, a3, a4, a5⟩ := lq_in (B := B) (N := N) (by omega) s2
  refine ⟨⟨s1, a1, a2, a3, fun q => Nat.lt_of_le_of_lt s1 (a4 q), a5⟩, fun kind value => ?_, m_tok hN he hm hp, fun i hi => w_tok hN he hi (fun k hk => by rw [(hc k hk).2, (hm k hk).2]) a1 a2 a3⟩
  obtain ⟨v', t1, t2⟩ := c_tok (N := N) (c := c) hN he hc s2 kind value
  refine ⟨v', ?_, t2⟩
  unfold f_X4_nextToken
  rw [c_skip he hc N p hp (by omega), z_ob1]
  exact t1
/-- the model has read the token at p -/
def TM (S Q K V : Nat → Nat) (p : Nat) (start next token value : Int32) : Prop := start = nI (S p) ∧ next = nI (Q p) ∧ token = nI (K p) ∧ (K p = 2 → value = nI (V p))
theorem x_num {st nx tk vv : Int32} {q : Nat} (h : LX N e c m S Q K V) (he : e ≤ 900) (hq : q ≤ e) (ht : TM S Q K V q st nx tk vv) (kind value code number ea lo hi : Int32) :
    (K q = 2 ∧ ¬ nI (V q) < lo ∧ nI (V q) ≤ hi ∧ f_X4_readNumber N (nI e) (nI q) kind value code c lo hi = some (1, nI (S q), nI (Q q), 2, nI (V q), code) ∧ ∃ st' nx' tk' vv', TM S Q K V (Q q) st' nx' tk' vv' ∧ f_X9_takes N (nI e) st nx tk vv 0 ea number m lo hi = some (1, st', nx', tk', vv', 0, ea, nI (V q))) ∨
    (∃ ka v', ka ≠ 0 ∧ (K q = 2 → nI (V q) < lo ∨ ¬ nI (V q) ≤ hi) ∧ f_X4_readNumber N (nI e) (nI q) kind value code c lo hi = some (0, nI (S q), nI (Q q), nI (K q), v', ka) ∧ f_X9_takes N (nI e) st nx tk vv 0 ea number m lo hi = some (0, st, nx, tk, vv, ka, nI (S q), number)) := by
  obtain ⟨⟨f1, f2, f3, f4, f5, f6⟩, fc, fm, fw⟩ := h q hq
  obtain ⟨v', c1, c2⟩ := fc kind value
  obtain ⟨rfl, rfl, rfl, hv⟩ := ht
  have e2 : (nI (K q) = 2) = (K q = 2) := z_eq (b := 2) (by omega) (by omega)
  unfold f_X4_readNumber f_X4_isNumber f_X4_fail f_X9_takes f_X9_within f_X9_fails
  rw [c1, z_ob4]
  simp only [e2, if_true]
  by_cases hk : K q = 2
  · have hv2 := hv hk
    have hv3 := c2 hk
    subst hv2 hv3
    rw [if_pos hk, if_pos hk]
    by_cases h1 : nI (V q) < lo
    · right
      rw [if_pos h1, if_pos h1]
      exact ⟨3, nI (V q), by decide, fun _ => Or.inl h1, rfl, rfl⟩
    · rw [if_neg h1, if_neg h1]
      by_cases h2 : nI (V q) ≤ hi
      · left
        obtain ⟨_, _, ⟨w, w1, w2⟩, _⟩ := h (Q q) f3
        rw [if_pos h2, if_neg (Int32.not_lt.mpr h2)]
        refine ⟨hk, h1, h2, by rw [hk]; rfl, _, _, _, w, ⟨rfl, rfl, rfl, w2⟩, ?_⟩
        rw [z_ob1, if_neg (by decide), w1, z_ob4]
      · right
        rw [if_neg h2, if_pos (Int32.not_le.mp h2)]
        exact ⟨3, nI (V q), by decide, fun _ => Or.inr h2, rfl, rfl⟩
  · right
    rw [if_neg hk, if_neg hk]
    exact ⟨1, v', by decide, fun q => absurd q hk, rfl, rfl⟩
end
