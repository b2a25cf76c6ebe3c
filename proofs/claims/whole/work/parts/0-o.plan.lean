/-- the greatest of m and the f i of the days that aren't taken -/
def pM (f : Nat → Nat) (t : Nat) : Nat → Nat → Nat
  | 0, m => m
  | i + 1, m => if t.testBit i then pM f t i m else if f i ≤ pM f t i m then pM f t i m else f i
theorem pM_le {f : Nat → Nat} {t m K : Nat} (hm : m ≤ K) (hf : ∀ d, d < 9 → t.testBit d = false → f d ≤ K) : ∀ {i : Nat}, i ≤ 9 → pM f t i m ≤ K
  | 0, _ => hm
  | i + 1, hi => by
    have ih := pM_le (i := i) hm hf (by omega)
    unfold pM
    by_cases h : t.testBit i = true
    · rw [if_pos h]; exact ih
    · rw [if_neg h]
      split
      · exact ih
      · exact hf i (by omega) (by simpa using h)
/-- the bits of a set of days -/
def pc (t : Nat) : Nat := sm 9 (fun i => if t.testBit i then 1 else 0)
theorem s_bitCount (N : Nat) : ∀ t, t < 512 → f_J6_bitCount_0f7a4 N (nI t) = some (nI (pc t)) := by
  unfold f_J6_bitCount_0f7a4
  have : ∀ t, t < 512 → (f_J6_bitCount_0f7a4 0 (nI t)).get! = nI (pc t) := by decide +kernel
  intro t ht
  exact congrArg some (this t ht)
theorem pc_or {t d : Nat} (hd : d < 9) : pc (t ||| 2 ^ d) ≤ pc t + 1 := by
  unfold pc
  have e := sm_delta d (fun _ => 1) 9
  rw [if_pos hd] at e
  refine Nat.le_trans (sm_le (g := fun i => (if t.testBit i then 1 else 0) + (if i = d then 1 else 0)) (fun i _ => ?_)) (by rw [sm_add, e]; exact Nat.le_refl _)
  rw [Nat.testBit_or, Nat.testBit_two_pow]
  by_cases h1 : t.testBit i = true
  · simp [h1]
  · by_cases h2 : d = i
    · subst h2; simp
    · simp [h1, h2]
theorem or_lt {t d : Nat} (ht : t < 512) (hd : d < 9) : t ||| 2 ^ d < 512 := by
  have h2 : 2 ^ d < 2 ^ 9 := Nat.pow_lt_pow_right (by omega) hd
  exact Nat.or_lt_two_pow (n := 9) ht h2
theorem xor_lt {t : Nat} (ht : t < 512) : 511 ^^^ t < 512 := Nat.xor_lt_two_pow (n := 9) (by omega) ht
theorem c_bit {t i : Nat} (ht : t < 512) (hi : i < 9) : (511 ^^^ t).testBit i = !t.testBit i := by
  have h511 : ∀ i, i < 9 → (511 : Nat).testBit i = true := by decide
  rw [Nat.testBit_xor, h511 i hi]; cases t.testBit i <;> rfl
theorem c_or {t d : Nat} (ht : t < 512) (hd : d < 9) : (511 ^^^ t) ^^^ ((511 ^^^ t) &&& 2 ^ d) = 511 ^^^ (t ||| 2 ^ d) := by
  apply Nat.eq_of_testBit_eq
  intro i
  rw [Nat.testBit_xor, Nat.testBit_and, Nat.testBit_two_pow]
  by_cases hi : i < 9
  · rw [c_bit ht hi, c_bit (or_lt ht hd) hi, Nat.testBit_or, Nat.testBit_two_pow]
    by_cases e : d = i
    · simp [e]
    · simp [e]
  · have h1 : (511 ^^^ t).testBit i = false := Nat.testBit_lt_two_pow (Nat.lt_of_lt_of_le (xor_lt ht) (Nat.pow_le_pow_right (n := 2) (i := 9) (by omega) (by omega)))
    have h2 : (511 ^^^ (t ||| 2 ^ d)).testBit i = false := Nat.testBit_lt_two_pow (Nat.lt_of_lt_of_le (xor_lt (or_lt ht hd)) (Nat.pow_le_pow_right (n := 2) (i := 9) (by omega) (by omega)))
    rw [h1, h2]; simp
theorem z_isIn {N s k : Nat} (hs : s < 2 ^ 31) (hk : k < 32) : f_X3_isIn N (nI s) (nI k) = some (if s.testBit k then 1 else 0) := z_has9 (N := N) hs hk
theorem s_fly {N b t d : Nat} {gain best : Nat → Int64} {g w : Nat → Nat} (hb : b < 10) (ht : t < 512) (hd : d < 9) (hg : gain (b * 9 + d) = lN (g d)) (hw : best ((b + 1) * 512 + (t ||| 2 ^ d)) = lN (w (t ||| 2 ^ d))) : f_X3_totalFlying N gain best (nI b) (nI d) (nI t) = some (lN (g d + w (t ||| 2 ^ d))) := by
  unfold f_X3_totalFlying
  have h := or_lt ht hd
  have e1 : nI b * 9 + nI d = nI (b * 9 + d) := by rw [show (9 : Int32) = nI 9 from rfl, z_mul, z_add]
  have e2 : (nI b + 1) * 512 + (nI t ||| (1 : Int32) <<< (nI d &&& 31)) = nI ((b + 1) * 512 + (t ||| 2 ^ d)) := by
    rw [z_shl1 (by omega), z_or, nI_1, show (512 : Int32) = nI 512 from rfl, z_mul, z_add]
  rw [e1, e2, z_gIx (by omega) (by omega), z_gIx (by omega) (by omega), z_cl (by omega), z_cl (by omega), hg, hw, lN_add]
theorem s_bestFrom_26 {N b t m K : Nat} {gain best : Nat → Int64} {g w : Nat → Nat} (hb : b < 10) (ht : t < 512) (hK : K < 2 ^ 62) (hm : m ≤ K) (hf : ∀ d, d < 9 → t.testBit d = false → g d + w (t ||| 2 ^ d) ≤ K) (hg : ∀ d, d < 9 → gain (b * 9 + d) = lN (g d)) (hw : ∀ d, d < 9 → best ((b + 1) * 512 + (t ||| 2 ^ d)) = lN (w (t ||| 2 ^ d))) : ∀ (n i : Nat), i ≤ 9 → 9 - i < n → f_X3_bestFrom_26 N best gain (nI b) (nI t) n (nI i) (lN (pM (fun d => g d + w (t ||| 2 ^ d)) t i m)) = some (nI 9, lN (pM (fun d => g d + w (t ||| 2 ^ d)) t 9 m)) := by
  intro n
  induction n with
  | zero => intro i h1 h2; omega
  | succ n ih =>
    intro i h1 h2
    rw [f_X3_bestFrom_26.eq_2]
    have e9 : (9 ≤ nI i) = (9 ≤ i) := z_le (a := 9) (by omega) (by omega)
    by_cases h : i < 9
    · rw [if_neg (by rw [e9]; omega), z_isIn (by omega) (by omega), z_ob1, ← ih (i + 1) (by omega) (by omega), s_fly hb ht h (hg i h) (hw i h), z_ob1, nI_1]
      have hp := pM_le (f := fun d => g d + w (t ||| 2 ^ d)) hm hf (i := i) (by omega)
      have e : pM (fun d => g d + w (t ||| 2 ^ d)) t (i + 1) m = if t.testBit i then pM (fun d => g d + w (t ||| 2 ^ d)) t i m else if g i + w (t ||| 2 ^ i) ≤ pM (fun d => g d + w (t ||| 2 ^ d)) t i m then pM (fun d => g d + w (t ||| 2 ^ d)) t i m else g i + w (t ||| 2 ^ i) := rfl
      rw [e]
      by_cases hbt : t.testBit i = true
      · rw [if_pos hbt, if_neg (by decide), if_pos hbt]
      · rw [if_neg hbt, if_pos rfl, if_neg hbt]
        have hfi := hf i h (by simpa using hbt)
        rw [show (if lN (g i + w (t ||| 2 ^ i)) < lN (pM (fun d => g d + w (t ||| 2 ^ d)) t i m) then lN (pM (fun d => g d + w (t ||| 2 ^ d)) t i m) else lN (g i + w (t ||| 2 ^ i))) = lN (if g i + w (t ||| 2 ^ i) ≤ pM (fun d => g d + w (t ||| 2 ^ d)) t i m then pM (fun d => g d + w (t ||| 2 ^ d)) t i m else g i + w (t ||| 2 ^ i)) from ?_]
        simp (disch := omega) only [y_lt]
        by_cases hlt : g i + w (t ||| 2 ^ i) < pM (fun d => g d + w (t ||| 2 ^ d)) t i m
        · rw [if_pos hlt, if_pos (by omega)]
        · rw [if_neg hlt]
          by_cases heq : g i + w (t ||| 2 ^ i) ≤ pM (fun d => g d + w (t ||| 2 ^ d)) t i m
          · rw [if_pos heq]; exact congrArg lN (by omega)
          · rw [if_neg heq]
    · have : i = 9 := by omega
      subst this
      rw [if_pos (by decide)]
theorem m_great_18 {N b t m K : Nat} {total worth : Nat → Int64} {now : Nat → Int32} {g w : Nat → Nat} (hb : b < 10) (ht : t < 512) (hK : K < 2 ^ 62) (hm : m ≤ K) (hf : ∀ d, d < 9 → t.testBit d = false → g d + w (t ||| 2 ^ d) ≤ K) (hg : ∀ d, d < 9 → worth (9 * b + d) = lN (g d)) (hw : ∀ d, d < 9 → total (512 * (b + 1) + (511 ^^^ (t ||| 2 ^ d))) = lN (w (t ||| 2 ^ d))) (h5 : now (5 + b) = 0) : ∀ (n i : Nat), i ≤ 9 → 9 - i < n → f_X9_greatest_18 N total now worth (nI b) (nI (511 ^^^ t)) n (nI i) (lN (pM (fun d => g d + w (t ||| 2 ^ d)) t i m)) = some (nI 9, lN (pM (fun d => g d + w (t ||| 2 ^ d)) t 9 m)) := by
  have hx := xor_lt ht
  intro n
  induction n with
  | zero => intro i h1 h2; omega
  | succ n ih =>
    intro i h1 h2
    rw [f_X9_greatest_18.eq_2]
    have e9 : (9 ≤ nI i) = (9 ≤ i) := z_le (a := 9) (by omega) (by omega)
    have a5 : (5 : Int32) + nI b = nI (5 + b) := by rw [show (5 : Int32) = nI 5 from rfl, z_add]
    by_cases h : i < 9
    · have hx2 := xor_lt (or_lt ht h)
      have e1 : (9 : Int32) * nI b + nI i = nI (9 * b + i) := by rw [show (9 : Int32) = nI 9 from rfl, z_mul, z_add]
      have e2 : (512 : Int32) * (nI b + 1) + (nI (511 ^^^ t) &&& ((1 : Int32) <<< (nI i &&& 31) ^^^ (-1))) = nI (512 * (b + 1) + (511 ^^^ (t ||| 2 ^ i))) := by
        rw [z_shl1 (by omega), z_andn, c_or ht h, nI_1, show (512 : Int32) = nI 512 from rfl, z_mul, z_add]
      rw [if_neg (by rw [e9]; omega), a5, z_gIx (by omega) (by omega), z_cl (n := 5 + b) (by omega), h5, if_pos rfl, z_has9 (by omega) (by omega), z_ob1, c_bit ht h, ← ih (i + 1) (by omega) (by omega), e1, e2, z_gIx (by omega) (by omega), z_gIx (by omega) (by omega), z_cl (n := 9 * b + i) (by omega), z_cl (n := 512 * (b + 1) + (511 ^^^ (t ||| 2 ^ i))) (by omega), hg i h, hw i h, lN_add, nI_1]
      have hp := pM_le (f := fun d => g d + w (t ||| 2 ^ d)) hm hf (i := i) (by omega)
      have e : pM (fun d => g d + w (t ||| 2 ^ d)) t (i + 1) m = if t.testBit i then pM (fun d => g d + w (t ||| 2 ^ d)) t i m else if g i + w (t ||| 2 ^ i) ≤ pM (fun d => g d + w (t ||| 2 ^ d)) t i m then pM (fun d => g d + w (t ||| 2 ^ d)) t i m else g i + w (t ||| 2 ^ i) := rfl
      rw [e]
      by_cases hbt : t.testBit i = true
      · simp only [hbt, Bool.not_true, Bool.false_eq_true, if_false, if_true]
      · have hbf : t.testBit i = false := by simpa using hbt
        have hfi := hf i h hbf
        simp only [hbf, Bool.not_false, Bool.false_eq_true, if_false, if_true]
        rw [if_neg (by decide)]
        have ec : (lg_cmp (lN (g i + w (t ||| 2 ^ i))) (lN (pM (fun d => g d + w (t ||| 2 ^ d)) t i m)) ≤ 0) = (g i + w (t ||| 2 ^ i) ≤ pM (fun d => g d + w (t ||| 2 ^ d)) t i m) := by
          rw [propext (lg_cmp_le _ _), y_le (by omega) (by omega)]
        simp only [ec]
        by_cases hlt : g i + w (t ||| 2 ^ i) ≤ pM (fun d => g d + w (t ||| 2 ^ d)) t i m
        · simp only [if_pos hlt]
        · simp only [if_neg hlt]
    · have : i = 9 := by omega
      subst this
      rw [if_pos (by decide)]
