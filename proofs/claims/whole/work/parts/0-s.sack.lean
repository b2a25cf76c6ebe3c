theorem wb_tb (n : Nat) : (lN n).toBitVec = BitVec.ofNat 64 n := rfl
theorem wb_inj {a b : Int64} (h : a.toBitVec = b.toBitVec) : a = b := Int64.toBitVec_inj.mp h
theorem wb_tn {n : Nat} (h : n < 2 ^ 64) : (lN n).toBitVec.toNat = n := by rw [wb_tb, BitVec.toNat_ofNat, Nat.mod_eq_of_lt h]
theorem wb_c : ∀ k, k < 64 → ((nI k).toInt64 &&& 63) = lN k := by decide +kernel
theorem wb_sm : ∀ k, k < 64 → (BitVec.ofNat 64 k).smod 64 = BitVec.ofNat 64 k := by decide +kernel
theorem wb_lt2 {a b : Nat} (h : a < b) : 2 ^ a < 2 ^ b := Nat.pow_lt_pow_right (by decide) h
theorem wb_shl (n : Nat) {k : Nat} (hk : k < 64) : lN n <<< ((nI k).toInt64 &&& 63) = lN (n * 2 ^ k) := by
  rw [wb_c k hk]
  apply wb_inj
  rw [Int64.toBitVec_shiftLeft, wb_tb, wb_tb, wb_tb, wb_sm k hk]
  apply BitVec.eq_of_toNat_eq
  rw [BitVec.shiftLeft_eq', BitVec.toNat_shiftLeft, BitVec.toNat_ofNat, BitVec.toNat_ofNat, BitVec.toNat_ofNat, Nat.mod_eq_of_lt (show k < 2 ^ 64 by omega), Nat.shiftLeft_eq, Nat.mul_mod, Nat.mod_mod, ← Nat.mul_mod]
theorem wb_and {a b : Nat} (ha : a < 2 ^ 64) (hb : b < 2 ^ 64) : lN a &&& lN b = lN (a &&& b) := by
  apply wb_inj
  rw [Int64.toBitVec_and, wb_tb, wb_tb, wb_tb]
  apply BitVec.eq_of_toNat_eq
  rw [BitVec.toNat_and, BitVec.toNat_ofNat, BitVec.toNat_ofNat, BitVec.toNat_ofNat, Nat.mod_eq_of_lt ha, Nat.mod_eq_of_lt hb, Nat.mod_eq_of_lt (Nat.and_lt_two_pow _ hb)]
theorem wb_mask {n k : Nat} (hn : n < 2 ^ 64) (hk : k < 64) : lN n &&& lN (2 ^ k - 1) = lN (n % 2 ^ k) := by
  rw [wb_and hn (by have := wb_lt2 hk; omega), Nat.and_two_pow_sub_one_eq_mod]
theorem y_shr {n : Nat} (h : n < 2 ^ 63) : lN n >>> ((24 : Int32).toInt64 &&& 63) = lN (n / 16777216) := by
  apply Int64.toInt_inj.mp
  have h2 : n / 16777216 ≤ n := Nat.div_le_self _ _
  have hs : (((24 : Int32).toInt64 &&& 63).toBitVec.smod 64).toNat = 24 := by decide
  show ((lN n).toBitVec.sshiftRight (((24 : Int32).toInt64 &&& 63).toBitVec.smod 64).toNat).toInt = _
  rw [hs, BitVec.toInt_sshiftRight]
  show (lN n).toInt >>> 24 = _
  rw [y_toInt h, y_toInt (by omega), Int.shiftRight_eq_div_pow]
  rfl
/-- sets of the first i letters, all of them waiting -/
def Adm (wt : Nat → Bool) (i s : Nat) : Prop := s < 2 ^ i ∧ ∀ k, k < i → s.testBit k = true → wt k = true
theorem tot_s (w : Nat → Nat) (i s : Nat) : tot (i + 1) w s = tot i w s + if s.testBit i then w i else 0 := rfl
theorem tot_lo {w : Nat → Nat} {i s : Nat} (h : s < 2 ^ i) : tot (i + 1) w s = tot i w s := by
  rw [tot_s, Nat.testBit_lt_two_pow h]; rfl
theorem bit_hi {i s k : Nat} (h : s < 2 ^ i) : (2 ^ i + s).testBit k = if k < i then s.testBit k else decide (k = i) := by
  by_cases h1 : k < i
  · rw [if_pos h1, Nat.testBit_two_pow_add_gt h1]
  · rw [if_neg h1]
    by_cases h2 : k = i
    · subst h2; rw [Nat.testBit_two_pow_add_eq, Nat.testBit_lt_two_pow h]; simp
    · have : 2 ^ i + s < 2 ^ k := by
        have e : 2 ^ (i + 1) ≤ 2 ^ k := Nat.pow_le_pow_right (by omega) (by omega)
        rw [Nat.pow_succ] at e; omega
      rw [Nat.testBit_lt_two_pow this]; simp [h2]
theorem tot_hi {w : Nat → Nat} {i s : Nat} (h : s < 2 ^ i) : tot (i + 1) w (2 ^ i + s) = tot i w s + w i := by
  rw [tot_s, bit_hi h, if_neg (Nat.lt_irrefl i)]
  simp only [decide_true, if_true]
  congr 1
  exact sm_congr (fun k hk => by rw [bit_hi h, if_pos hk])
theorem Adm_lo {wt : Nat → Bool} {i s : Nat} (h : Adm wt i s) : Adm wt (i + 1) s := by
  refine ⟨by have := h.1; rw [Nat.pow_succ]; omega, fun k hk hb => ?_⟩
  by_cases e : k < i
  · exact h.2 k e hb
  · have : k = i := by omega
    subst this
    rw [Nat.testBit_lt_two_pow h.1] at hb; cases hb
theorem Adm_hi {wt : Nat → Bool} {i s : Nat} (hw : wt i = true) (h : Adm wt i s) : Adm wt (i + 1) (2 ^ i + s) := by
  refine ⟨by have := h.1; rw [Nat.pow_succ]; omega, fun k hk hb => ?_⟩
  by_cases e : k < i
  · rw [bit_hi h.1, if_pos e] at hb; exact h.2 k e hb
  · have : k = i := by omega
    subst this; exact hw
theorem Adm_cases {wt : Nat → Bool} {i s : Nat} (h : Adm wt (i + 1) s) : Adm wt i s ∨ (wt i = true ∧ ∃ s0, Adm wt i s0 ∧ s = 2 ^ i + s0) := by
  obtain ⟨h1, h2⟩ := h
  rw [Nat.pow_succ] at h1
  by_cases e : s < 2 ^ i
  · exact Or.inl ⟨e, fun k hk hb => h2 k (by omega) hb⟩
  · right
    have e0 : s = 2 ^ i + (s - 2 ^ i) := by omega
    have lt : s - 2 ^ i < 2 ^ i := by omega
    have hb : s.testBit i = true := by rw [e0, bit_hi lt, if_neg (Nat.lt_irrefl i)]; simp
    refine ⟨h2 i (by omega) hb, s - 2 ^ i, ⟨lt, fun k hk hbk => h2 k (by omega) ?_⟩, e0⟩
    rw [e0, bit_hi lt, if_pos hk]; exact hbk
theorem tot_le {w : Nat → Nat} {M i s : Nat} (h : ∀ k, k < i → w k ≤ M) : tot i w s ≤ i * M := by
  unfold tot
  have := sm_le (f := fun k => if s.testBit k then w k else 0) (g := fun _ => M) (n := i) (fun k hk => by have := h k hk; split <;> omega)
  rw [sm_const] at this
  exact this
def K60 : Nat := 1152921504606846976
/-- the lightest sets, for each total priority -/
def LI (wt : Nat → Bool) (w p : Nat → Nat) (i : Nat) (L : Nat → Nat) : Prop :=
  ∀ q, q ≤ 216 → (L q = K60 ∧ ∀ s, Adm wt i s → tot i p s ≠ q) ∨ (∃ s, Adm wt i s ∧ tot i p s = q ∧ L q = tot i w s * 16777216 + s ∧ ∀ s', Adm wt i s' → tot i p s' = q → tot i w s * 16777216 + s ≤ tot i w s' * 16777216 + s')
theorem LI_le {wt : Nat → Bool} {w p L : Nat → Nat} {i : Nat} (hi : i ≤ 24) (hw : ∀ k, k < i → w k ≤ 99) (h : LI wt w p i L) {q : Nat} (hq : q ≤ 216) : L q ≤ K60 := by
  rcases h q hq with ⟨h1, _⟩ | ⟨s, h1, _, h3, _⟩
  · rw [h1]; exact Nat.le_refl _
  · rw [h3]
    have h4 := tot_le (s := s) hw
    have h5 : 2 ^ i ≤ 2 ^ 24 := Nat.pow_le_pow_right (by omega) hi
    have := h1.1
    have h6 : i * 99 ≤ 24 * 99 := Nat.mul_le_mul_right 99 hi
    have h7 : tot i w s ≤ 2376 := by omega
    unfold K60; omega
theorem LI_0 (wt : Nat → Bool) (w p : Nat → Nat) : LI wt w p 0 (fun q => if q = 0 then 0 else K60) := by
  intro q hq
  by_cases e : q = 0
  · subst e
    right
    have e0 : tot 0 w 0 * 16777216 + 0 = 0 := by rw [show tot 0 w 0 = 0 from rfl, Nat.zero_mul]
    refine ⟨0, ⟨by decide, fun k hk => by omega⟩, rfl, ?_, fun s' h _ => ?_⟩
    · rw [e0]; exact if_pos rfl
    · rw [e0]; exact Nat.zero_le _
  · left
    exact ⟨if_neg e, fun s _ h => e h.symm⟩
theorem LI_skip {wt : Nat → Bool} {w p L : Nat → Nat} {i : Nat} (hn : wt i = false) (h : LI wt w p i L) : LI wt w p (i + 1) L := by
  have hA : ∀ s, Adm wt (i + 1) s → Adm wt i s := by
    intro s hs
    rcases Adm_cases hs with h1 | ⟨h1, _⟩
    · exact h1
    · rw [hn] at h1; cases h1
  intro q hq
  rcases h q hq with ⟨h1, h2⟩ | ⟨s, h1, h2, h3, h4⟩
  · left; exact ⟨h1, fun s hs => by rw [tot_lo (hA s hs).1]; exact h2 s (hA s hs)⟩
  · right
    refine ⟨s, Adm_lo h1, by rw [tot_lo h1.1]; exact h2, by rw [tot_lo h1.1]; exact h3, fun s' hs' hq' => ?_⟩
    have ha := hA s' hs'
    rw [tot_lo ha.1] at hq' ⊢
    rw [tot_lo h1.1]
    exact h4 s' ha hq'
/-- a letter more -/
def LN_ (L : Nat → Nat) (a p : Nat) (q : Nat) : Nat := if q < p then L q else if L (q - p) + a < L q then L (q - p) + a else L q
theorem LI_take {wt : Nat → Bool} {w p L : Nat → Nat} {i : Nat} (hi : i < 24) (hw : ∀ k, k < i + 1 → w k ≤ 99) (hy : wt i = true) (h : LI wt w p i L) : LI wt w p (i + 1) (LN_ L (w i * 16777216 + 2 ^ i) (p i)) := by
  have h24 : 2 ^ i ≤ 2 ^ 24 := Nat.pow_le_pow_right (by omega) (by omega)
  have hLle : ∀ q, q ≤ 216 → L q ≤ K60 := fun q hq => LI_le (by omega) (fun k hk => hw k (by omega)) h hq
  -- a set with the letter i, seen from its rest
  have hiK : ∀ s0, Adm wt i s0 → tot (i + 1) w (2 ^ i + s0) * 16777216 + (2 ^ i + s0) = (tot i w s0 * 16777216 + s0) + (w i * 16777216 + 2 ^ i) := by
    intro s0 h0; rw [tot_hi h0.1, Nat.add_mul]; omega
  intro q hq
  by_cases hqp : q < p i
  · have e : LN_ L (w i * 16777216 + 2 ^ i) (p i) q = L q := if_pos hqp
    rw [e]
    have hno : ∀ s0, Adm wt i s0 → tot (i + 1) p (2 ^ i + s0) ≠ q := by
      intro s0 h0 hh; rw [tot_hi h0.1] at hh; omega
    rcases h q hq with ⟨h1, h2⟩ | ⟨s, h1, h2, h3, h4⟩
    · left
      refine ⟨h1, fun s hs => ?_⟩
      rcases Adm_cases hs with ha | ⟨_, s0, ha, rfl⟩
      · rw [tot_lo ha.1]; exact h2 s ha
      · exact hno s0 ha
    · right
      refine ⟨s, Adm_lo h1, by rw [tot_lo h1.1]; exact h2, by rw [tot_lo h1.1]; exact h3, fun s' hs' hq' => ?_⟩
      rw [tot_lo h1.1]
      rcases Adm_cases hs' with ha | ⟨_, s0, ha, rfl⟩
      · rw [tot_lo ha.1] at hq' ⊢; exact h4 s' ha hq'
      · exact absurd hq' (hno s0 ha)
  · have e : LN_ L (w i * 16777216 + 2 ^ i) (p i) q = if L (q - p i) + (w i * 16777216 + 2 ^ i) < L q then L (q - p i) + (w i * 16777216 + 2 ^ i) else L q := if_neg hqp
    rw [e]
    have hpos : 0 < 2 ^ i := Nat.two_pow_pos i
    rcases h (q - p i) (by omega) with ⟨a1, a2⟩ | ⟨s0, a1, a2, a3, a4⟩
    · -- no rest: as before
      have hl := hLle q hq
      rw [if_neg (by rw [a1]; omega)]
      have hno : ∀ s0, Adm wt i s0 → tot (i + 1) p (2 ^ i + s0) ≠ q := by
        intro s0 h0 hh; rw [tot_hi h0.1] at hh; exact a2 s0 h0 (by omega)
      rcases h q hq with ⟨h1, h2⟩ | ⟨s, h1, h2, h3, h4⟩
      · left
        refine ⟨h1, fun s hs => ?_⟩
        rcases Adm_cases hs with ha | ⟨_, s0, ha, rfl⟩
        · rw [tot_lo ha.1]; exact h2 s ha
        · exact hno s0 ha
      · right
        refine ⟨s, Adm_lo h1, by rw [tot_lo h1.1]; exact h2, by rw [tot_lo h1.1]; exact h3, fun s' hs' hq' => ?_⟩
        rw [tot_lo h1.1]
        rcases Adm_cases hs' with ha | ⟨_, s0, ha, rfl⟩
        · rw [tot_lo ha.1] at hq' ⊢; exact h4 s' ha hq'
        · exact absurd hq' (hno s0 ha)
    · have hmin : ∀ t0, Adm wt i t0 → tot (i + 1) p (2 ^ i + t0) = q → L (q - p i) + (w i * 16777216 + 2 ^ i) ≤ tot (i + 1) w (2 ^ i + t0) * 16777216 + (2 ^ i + t0) := by
        intro t0 ht hh
        rw [tot_hi ht.1] at hh
        rw [hiK t0 ht, a3]
        exact Nat.add_le_add_right (a4 t0 ht (by omega)) _
      by_cases hlt : L (q - p i) + (w i * 16777216 + 2 ^ i) < L q
      · rw [if_pos hlt]
        right
        refine ⟨2 ^ i + s0, Adm_hi hy a1, by rw [tot_hi a1.1, a2]; omega, by rw [hiK s0 a1, a3], fun s' hs' hq' => ?_⟩
        rw [hiK s0 a1, ← a3]
        rcases Adm_cases hs' with ha | ⟨_, t0, ha, rfl⟩
        · rw [tot_lo ha.1] at hq' ⊢
          rcases h q hq with ⟨h1, h2⟩ | ⟨s, h1, h2, h3, h4⟩
          · exact absurd hq' (h2 s' ha)
          · have := h4 s' ha hq'; omega
        · exact hmin t0 ha hq'
      · rw [if_neg hlt]
        right
        rcases h q hq with ⟨h1, h2⟩ | ⟨s, h1, h2, h3, h4⟩
        · exfalso
          have hb := LI_le (i := i) (by omega) (fun k hk => hw k (by omega)) h (q := q - p i) (by omega)
          have h5 := tot_le (s := s0) (fun k hk => hw k (show k < i + 1 by omega)) (i := i)
          have h6 : i * 99 ≤ 24 * 99 := Nat.mul_le_mul_right 99 (by omega)
          have h7 := hw i (by omega)
          have h8 := a1.1
          rw [h1, a3] at hlt
          unfold K60 at hlt; omega
        · refine ⟨s, Adm_lo h1, by rw [tot_lo h1.1]; exact h2, by rw [tot_lo h1.1]; exact h3, fun s' hs' hq' => ?_⟩
          rw [tot_lo h1.1]
          rcases Adm_cases hs' with ha | ⟨_, t0, ha, rfl⟩
          · rw [tot_lo ha.1] at hq' ⊢; exact h4 s' ha hq'
          · have := hmin t0 ha hq'; omega
