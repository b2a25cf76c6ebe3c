/-- a byte -/
def yB (b : Nat) : Int32 := (Int8.ofNat b).toInt32
theorem yB_f : ∀ b, b < 256 → (yB b = 32 ↔ b = 32) ∧ (yB b = 10 ↔ b = 10) ∧ (yB b = 59 ↔ b = 59) ∧ ((yB b < nI 97 ∨ nI 122 < yB b) ↔ ¬ (97 ≤ b ∧ b ≤ 122)) ∧ ((yB b < nI 48 ∨ nI 57 < yB b) ↔ ¬ (48 ≤ b ∧ b ≤ 57)) ∧ yB b &&& 255 = nI b ∧ (48 ≤ b ∧ b ≤ 57 → yB b = nI b) := by decide +kernel
theorem yB_32 {b : Nat} (h : b < 256) : (yB b = 32) = (b = 32) := propext (yB_f b h).1
theorem yB_10 {b : Nat} (h : b < 256) : (yB b = 10) = (b = 10) := propext (yB_f b h).2.1
theorem yB_59 {b : Nat} (h : b < 256) : (yB b = 59) = (b = 59) := propext (yB_f b h).2.2.1
theorem yB_az {b : Nat} (h : b < 256) : (yB b < nI 97 ∨ nI 122 < yB b) ↔ ¬ (97 ≤ b ∧ b ≤ 122) := (yB_f b h).2.2.2.1
theorem yB_09 {b : Nat} (h : b < 256) : (yB b < nI 48 ∨ nI 57 < yB b) ↔ ¬ (48 ≤ b ∧ b ≤ 57) := (yB_f b h).2.2.2.2.1
theorem yB_255 {b : Nat} (h : b < 256) : yB b &&& 255 = nI b := (yB_f b h).2.2.2.2.2.1
theorem yB_d {b : Nat} (h : b < 256) (h2 : 48 ≤ b ∧ b ≤ 57) : yB b = nI b := (yB_f b h).2.2.2.2.2.2 h2
theorem yB_ex (x : Int8) : ∃ b, b < 256 ∧ x.toInt32 = yB b := by
  refine ⟨x.toBitVec.toNat, x.toBitVec.isLt, ?_⟩
  unfold yB
  congr 1
  apply Int8.toBitVec_inj.mp
  show x.toBitVec = BitVec.ofNat 8 x.toBitVec.toNat
  rw [BitVec.ofNat_toNat, BitVec.setWidth_eq]
/-- blanks -/
def skp (B : Nat → Nat) (e : Nat) : Nat → Nat → Nat
  | 0, p => p
  | n + 1, p => if p < e ∧ (B p = 32 ∨ B p = 10) then skp B e n (p + 1) else p
theorem skp_s (B : Nat → Nat) (e n p : Nat) : skp B e (n + 1) p = if p < e ∧ (B p = 32 ∨ B p = 10) then skp B e n (p + 1) else p := rfl
theorem skp_in {B : Nat → Nat} {e : Nat} : ∀ (n p : Nat), p ≤ e → p ≤ skp B e n p ∧ skp B e n p ≤ e
  | 0, p, h => ⟨Nat.le_refl _, h⟩
  | n + 1, p, h => by
    rw [skp_s]
    by_cases hc : p < e ∧ (B p = 32 ∨ B p = 10)
    · rw [if_pos hc]
      have := skp_in (B := B) (e := e) n (p + 1) (by omega)
      omega
    · rw [if_neg hc]; exact ⟨Nat.le_refl _, h⟩
def rn (B : Nat → Nat) (e lo hi : Nat) : Nat → Nat → Nat
  | 0, p => p
  | n + 1, p => if p < e ∧ lo ≤ B p ∧ B p ≤ hi then rn B e lo hi n (p + 1) else p
theorem rn_s (B : Nat → Nat) (e lo hi n p : Nat) : rn B e lo hi (n + 1) p = if p < e ∧ lo ≤ B p ∧ B p ≤ hi then rn B e lo hi n (p + 1) else p := rfl
theorem rn_in {B : Nat → Nat} {e lo hi : Nat} : ∀ (n p : Nat), p ≤ e → p ≤ rn B e lo hi n p ∧ rn B e lo hi n p ≤ e ∧ ∀ j, p ≤ j → j < rn B e lo hi n p → lo ≤ B j ∧ B j ≤ hi
  | 0, p, h => ⟨Nat.le_refl _, h, fun j h1 h2 => by have : j < p := h2; omega⟩
  | n + 1, p, h => by
    rw [rn_s]
    by_cases hc : p < e ∧ lo ≤ B p ∧ B p ≤ hi
    · rw [if_pos hc]
      obtain ⟨a1, a2, a3⟩ := rn_in (B := B) (e := e) (lo := lo) (hi := hi) n (p + 1) (by omega)
      refine ⟨by omega, a2, fun j h1 h2 => ?_⟩
      by_cases e1 : j = p
      · subst e1; exact hc.2
      · exact a3 j (by omega) h2
    · rw [if_neg hc]; exact ⟨Nat.le_refl _, h, fun j h1 h2 => by omega⟩
theorem rn_pos {B : Nat → Nat} {e lo hi n p : Nat} (h : p < e) (hn : 0 < n) (hb : lo ≤ B p ∧ B p ≤ hi) : p < rn B e lo hi n p := by
  obtain ⟨n', rfl⟩ : ∃ n', n = n' + 1 := ⟨n - 1, by omega⟩
  rw [rn_s, if_pos ⟨h, hb⟩]
  have := (rn_in (B := B) (e := e) (lo := lo) (hi := hi) n' (p + 1) (by omega)).1
  omega
/-- the number of k digits -/
def vl (B : Nat → Nat) (s : Nat) : Nat → Nat
  | 0 => 0
  | k + 1 => vl B s k * 10 + (B (s + k) - 48)
theorem vl_s (B : Nat → Nat) (s k : Nat) : vl B s (k + 1) = vl B s k * 10 + (B (s + k) - 48) := rfl
theorem vl_lt {B : Nat → Nat} {s : Nat} : ∀ k : Nat, (∀ j, j < k → B (s + j) ≤ 57) → vl B s k < 10 ^ k
  | 0, _ => by show (0 : Nat) < 10 ^ 0; decide
  | k + 1, h => by
    have h1 := vl_lt k (fun j hj => h j (by omega))
    have h2 := h k (by omega)
    rw [vl_s, Nat.pow_succ]; omega
section
variable {N e : Nat} {B : Nat → Nat} {c m : Nat → Int32}
theorem c_skip (he : e ≤ 900) (hc : ∀ k, k < e → B k < 256 ∧ c k = yB (B k)) : ∀ (n p : Nat), p ≤ e → e - p < n → f_X4_nextToken_0 N (nI e) c n (nI p) = some (nI (skp B e n p)) := by
  intro n
  induction n with
  | zero => intro p h1 h2; omega
  | succ n ih =>
    intro p h1 h2
    rw [f_X4_nextToken_0.eq_2, skp_s]
    by_cases h : p < e
    · obtain ⟨hb, e1⟩ := hc p h
      rw [if_neg (by rw [z_le (by omega) (by omega)]; omega), z_gIx (by omega) (by omega), z_gIx (by omega) (by omega), z_cl (by omega), e1, nI_1]
      simp only [yB_32 hb, yB_10 hb]
      by_cases h1 : B p = 32
      · rw [if_pos h1, if_pos ⟨h, Or.inl h1⟩]; exact ih (p + 1) (by omega) (by omega)
      · rw [if_neg h1]
        by_cases h2 : B p = 10
        · rw [if_pos h2, if_pos ⟨h, Or.inr h2⟩]; exact ih (p + 1) (by omega) (by omega)
        · rw [if_neg h2, if_neg (fun q => q.2.elim h1 h2)]
    · have : p = e := by omega
      subst this
      rw [if_pos (by rw [z_le (by omega) (by omega)]; omega), if_neg (fun q => h q.1)]
theorem m_byte (he : e ≤ 900) (hm : ∀ k, k < e → B k < 256 ∧ m k = yB (B k)) {p : Nat} (hp : p ≤ e) : f_X9_byteAt N (nI e) m (nI p) = some (if p < e then nI (B p) else (-2)) := by
  unfold f_X9_byteAt
  by_cases h : p < e
  · obtain ⟨hb, e1⟩ := hm p h
    rw [if_neg (by rw [z_le (by omega) (by omega)]; omega), z_gIx (by omega) (by omega), z_cl (by omega), e1, yB_255 hb, if_pos h]
  · rw [if_pos (by rw [z_le (by omega) (by omega)]; omega), if_neg h]
theorem m_skip (he : e ≤ 900) (hm : ∀ k, k < e → B k < 256 ∧ m k = yB (B k)) : ∀ (n p : Nat), p ≤ e → e - p < n → f_X9_advance_0 N (nI e) m n (nI p) = some (nI (skp B e n p)) := by
  intro n
  induction n with
  | zero => intro p h1 h2; omega
  | succ n ih =>
    intro p h1 h2
    rw [f_X9_advance_0.eq_2, m_byte he hm h1, z_ob1, z_ob1, skp_s]
    by_cases h : p < e
    · obtain ⟨hb, e1⟩ := hm p h
      have e32 : (nI (B p) = 32) = (B p = 32) := z_eq (b := 32) (by omega) (by omega)
      have e10 : (nI (B p) = 10) = (B p = 10) := z_eq (b := 10) (by omega) (by omega)
      simp only [if_pos h, e32, e10, nI_1]
      by_cases h1 : B p = 32
      · rw [if_pos h1, if_pos ⟨h, Or.inl h1⟩]; exact ih (p + 1) (by omega) (by omega)
      · rw [if_neg h1]
        by_cases h2 : B p = 10
        · rw [if_pos h2, if_pos ⟨h, Or.inr h2⟩]; exact ih (p + 1) (by omega) (by omega)
        · rw [if_neg h2, if_neg (fun q => q.2.elim h1 h2)]
    · simp only [if_neg h]
      rw [if_neg (by decide), if_neg (by decide), if_neg (fun q => h q.1)]
theorem c_run {lo hi : Nat} (he : e ≤ 900) (hc : ∀ k, k < e → B k < 256 ∧ c k = yB (B k)) (hr : ∀ b, b < 256 → ((yB b < nI lo ∨ nI hi < yB b) ↔ ¬ (lo ≤ b ∧ b ≤ hi))) : ∀ (n p : Nat), p ≤ e → e - p < n → f_X4_passRun_0 N (nI e) c (nI lo) (nI hi) n (nI p) = some (nI (rn B e lo hi n p)) := by
  intro n
  induction n with
  | zero => intro p h1 h2; omega
  | succ n ih =>
    intro p h1 h2
    rw [f_X4_passRun_0.eq_2, rn_s]
    by_cases h : p < e
    · obtain ⟨hb, e1⟩ := hc p h
      rw [if_neg (by rw [z_le (by omega) (by omega)]; omega), z_gIx (by omega) (by omega), z_gIx (by omega) (by omega), z_cl (by omega), e1, nI_1]
      have hh := hr (B p) hb
      by_cases hx : lo ≤ B p ∧ B p ≤ hi
      · rw [if_neg (fun q => hh.1 (Or.inl q) hx), if_neg (fun q => hh.1 (Or.inr q) hx), if_pos ⟨h, hx⟩]
        exact ih (p + 1) (by omega) (by omega)
      · rw [if_neg (show ¬ (p < e ∧ lo ≤ B p ∧ B p ≤ hi) from fun q => hx q.2)]
        by_cases h3 : yB (B p) < nI lo
        · rw [if_pos h3]
        · rw [if_neg h3]
          rcases hh.2 hx with h4 | h4
          · exact absurd h4 h3
          · rw [if_pos h4]
    · have : p = e := by omega
      subst this
      rw [if_pos (by rw [z_le (by omega) (by omega)]; omega), if_neg (fun q => h q.1)]
theorem m_win {b lo hi : Nat} (hb : b < 2 ^ 31) (hl : lo < 2 ^ 31) (hh : hi < 2 ^ 31) : f_X9_within N (nI b) (nI lo) (nI hi) = some (if lo ≤ b ∧ b ≤ hi then 1 else 0) := by
  unfold f_X9_within
  simp (disch := omega) only [z_lt]
  by_cases h1 : b < lo
  · rw [if_pos h1, if_neg (by omega)]
  · rw [if_neg h1]
    by_cases h2 : hi < b
    · rw [if_pos h2, if_neg (by omega)]
    · rw [if_neg h2, if_pos (by omega)]
theorem m_win2 {lo hi : Nat} (hl : lo < 2 ^ 31) : f_X9_within N (-2) (nI lo) (nI hi) = some 0 := by
  unfold f_X9_within
  rw [if_pos]
  rw [Int32.lt_iff_toInt_lt, nI_toInt hl, show (-2 : Int32).toInt = -2 by decide]; omega
theorem z_10 {p : Prop} [Decidable p] : ((if p then (1 : Int32) else 0) = 0) = ¬ p := by
  by_cases h : p
  · rw [if_pos h]; exact (eq_false (by decide)).trans (eq_false (fun q => q h)).symm
  · rw [if_neg h]; exact (eq_true rfl).trans (eq_true h).symm
theorem m_run (he : e ≤ 900) (hm : ∀ k, k < e → B k < 256 ∧ m k = yB (B k)) : ∀ (n p : Nat), p ≤ e → e - p < n → f_X9_advance_86 N (nI e) m n (nI p) = some (nI (rn B e 97 122 n p)) := by
  intro n
  induction n with
  | zero => intro p h1 h2; omega
  | succ n ih =>
    intro p h1 h2
    rw [f_X9_advance_86.eq_2, m_byte he hm h1, z_ob1, show (97 : Int32) = nI 97 from rfl, show (122 : Int32) = nI 122 from rfl, rn_s]
    by_cases h : p < e
    · obtain ⟨hb, e1⟩ := hm p h
      rw [if_pos h, m_win (by omega) (by omega) (by omega), z_ob1, nI_1]
      simp only [z_10]
      by_cases hx : 97 ≤ B p ∧ B p ≤ 122
      · rw [if_neg (fun q => q hx), if_pos ⟨h, hx⟩]; exact ih (p + 1) (by omega) (by omega)
      · rw [if_pos hx, if_neg (fun q => hx q.2)]
    · rw [if_neg h, m_win2 (by omega), z_ob1, if_pos rfl, if_neg (fun q => h q.1)]
theorem m_num {s : Nat} (he : e ≤ 900) (hm : ∀ k, k < e → B k < 256 ∧ m k = yB (B k)) : ∀ (n q v : Nat), s ≤ q → q ≤ e → e - q < n → v = vl B s (min 4 (q - s)) → f_X9_advance_154 N (nI e) m (nI s) n (nI q) (nI v) = some (nI (rn B e 48 57 n q), nI (vl B s (min 4 (rn B e 48 57 n q - s)))) := by
  intro n
  induction n with
  | zero => intro q v h0 h1 h2; omega
  | succ n ih =>
    intro q v h0 h1 h2 hv
    rw [f_X9_advance_154.eq_2, m_byte he hm h1, z_ob1, show (48 : Int32) = nI 48 from rfl, show (57 : Int32) = nI 57 from rfl, rn_s]
    by_cases h : q < e
    · obtain ⟨hb, e1⟩ := hm q h
      rw [if_pos h, m_win (by omega) (by omega) (by omega), z_ob1, z_ob1, nI_1, z_sub h0, show (4 : Int32) = nI 4 from rfl, show (10 : Int32) = nI 10 from rfl]
      simp only [z_10]
      by_cases hx : 48 ≤ B q ∧ B q ≤ 57
      · rw [if_neg (fun t => t hx), if_pos (show q < e ∧ 48 ≤ B q ∧ B q ≤ 57 from ⟨h, hx⟩)]
        simp (disch := omega) only [z_le]
        by_cases h4 : 4 ≤ q - s
        · rw [if_pos h4]
          exact ih (q + 1) v (by omega) (by omega) (by omega) (by rw [hv]; congr 1; omega)
        · rw [if_neg h4, z_mul, z_add, z_sub (by omega)]
          refine ih (q + 1) _ (by omega) (by omega) (by omega) ?_
          rw [hv, show min 4 (q + 1 - s) = (q - s) + 1 by omega, show min 4 (q - s) = q - s by omega, vl_s, show s + (q - s) = q by omega]
          omega
      · rw [if_pos hx, if_neg (fun t => hx t.2), hv]
    · rw [if_neg h, m_win2 (by omega), z_ob1, if_pos rfl, if_neg (fun t => h t.1), hv]
theorem c_num {s q : Nat} (hq : q ≤ e) (he : e ≤ 900) (hc : ∀ k, k < e → B k < 256 ∧ c k = yB (B k)) (hd : ∀ j, s ≤ j → j < q → 48 ≤ B j ∧ B j ≤ 57) : ∀ (n k v : Nat), s ≤ k → k ≤ q → q - k < n → v = vl B s (k - s) → f_X4_numberRead_7 N (nI q) c n (nI k) (nI v) = some (nI q, nI (vl B s (q - s))) := by
  intro n
  induction n with
  | zero => intro k v h0 h1 h2; omega
  | succ n ih =>
    intro k v h0 h1 h2 hv
    rw [f_X4_numberRead_7.eq_2]
    by_cases h : k < q
    · obtain ⟨hb, e1⟩ := hc k (by omega)
      have d := hd k h0 h
      rw [if_neg (by rw [z_le (by omega) (by omega)]; omega), z_gIx (by omega) (by omega), z_cl (by omega), e1, yB_d hb d, nI_1, show (48 : Int32) = nI 48 from rfl, show (10 : Int32) = nI 10 from rfl, z_sub d.1, z_mul, z_add]
      refine ih (k + 1) _ (by omega) (by omega) (by omega) ?_
      rw [hv, show k + 1 - s = (k - s) + 1 by omega, vl_s, show s + (k - s) = k by omega]
    · have : k = q := by omega
      subst this
      rw [if_pos (by rw [z_le (by omega) (by omega)]; omega), hv]
/-- the token at s -/
def lQ (B : Nat → Nat) (e N s : Nat) : Nat := if s < e then (if 97 ≤ B s ∧ B s ≤ 122 then rn B e 97 122 N s else if 48 ≤ B s ∧ B s ≤ 57 then rn B e 48 57 N s else s + 1) else s
def lK (B : Nat → Nat) (e N s : Nat) : Nat := if s < e then (if 97 ≤ B s ∧ B s ≤ 122 then (if rn B e 97 122 N s - s ≤ 8 then 1 else 4) else if 48 ≤ B s ∧ B s ≤ 57 then (if rn B e 48 57 N s - s ≤ 4 then 2 else 4) else if B s = 59 then 3 else 4) else 0
theorem c_tok (hN : 3000 < N) (he : e ≤ 900) (hc : ∀ k, k < e → B k < 256 ∧ c k = yB (B k)) {s : Nat} (hs : s ≤ e) (kind value : Int32) : ∃ v', f_X4_nextToken_j52 N (nI e) kind value c (nI s) = some (nI s, nI (lQ B e N s), nI (lK B e N s), v') ∧ (lK B e N s = 2 → v' = nI (vl B s (lQ B e N s - s))) := by
  unfold f_X4_nextToken_j52 lQ lK
  by_cases h : s < e
  · obtain ⟨hb, e1⟩ := hc s h
    rw [if_pos (by rw [z_lt (by omega) (by omega)]; exact h), if_pos h, if_pos h, z_gIx (by omega) (by omega), z_cl (by omega), e1, show (97 : Int32) = nI 97 from rfl, show (122 : Int32) = nI 122 from rfl]
    have haz := yB_az hb
    have h09 := yB_09 hb
    by_cases hx : 97 ≤ B s ∧ B s ≤ 122
    · obtain ⟨r1, r2, r3⟩ := rn_in (B := B) (e := e) (lo := 97) (hi := 122) N s hs
      rw [if_neg (fun q => haz.1 (Or.inl q) hx), if_neg (fun q => haz.1 (Or.inr q) hx), if_pos hx, if_pos hx]
      unfold f_X4_passRun
      rw [c_run he hc (fun b hb => yB_az hb) N s hs (by omega), z_ob1, z_ob1, z_sub r1, show (8 : Int32) = nI 8 from rfl]
      simp (disch := omega) only [z_lt]
      by_cases h8 : rn B e 97 122 N s - s ≤ 8
      · rw [if_neg (by omega), if_pos h8]; exact ⟨value, rfl, fun q => by cases q⟩
      · rw [if_pos (by omega), if_neg h8]; exact ⟨value, rfl, fun q => by cases q⟩
    · rw [if_neg hx, if_neg hx]
      have ej : (if yB (B s) < nI 97 then f_X4_nextToken_j133 N (nI e) value c (yB (B s)) (nI s) (nI s) kind else if nI 122 < yB (B s) then f_X4_nextToken_j133 N (nI e) value c (yB (B s)) (nI s) (nI s) kind else ob1 (f_X4_passRun N (nI e) (nI s) c (nI 97) (nI 122)) (fun place_3 => if 8 < (place_3 - nI s) then (some (nI s, place_3, 4, value)) else (some (nI s, place_3, 1, value)))) = f_X4_nextToken_j133 N (nI e) value c (yB (B s)) (nI s) (nI s) kind := by
        by_cases h3 : yB (B s) < nI 97
        · rw [if_pos h3]
        · rw [if_neg h3]
          rcases haz.2 hx with h4 | h4
          · exact absurd h4 h3
          · rw [if_pos h4]
      rw [ej]
      unfold f_X4_nextToken_j133
      rw [show (48 : Int32) = nI 48 from rfl, show (57 : Int32) = nI 57 from rfl]
      by_cases hy : 48 ≤ B s ∧ B s ≤ 57
      · obtain ⟨r1, r2, r3⟩ := rn_in (B := B) (e := e) (lo := 48) (hi := 57) N s hs
        rw [if_neg (fun q => h09.1 (Or.inl q) hy), if_neg (fun q => h09.1 (Or.inr q) hy), if_pos hy, if_pos hy]
        unfold f_X4_passRun
        rw [c_run he hc (fun b hb => yB_09 hb) N s hs (by omega), z_ob1, z_ob1, z_sub r1, show (4 : Int32) = nI 4 from rfl]
        simp (disch := omega) only [z_lt]
        unfold f_X4_nextToken_j172
        by_cases h4 : rn B e 48 57 N s - s ≤ 4
        · rw [if_neg (by omega), if_pos rfl, if_pos h4]
          unfold f_X4_numberRead
          have hn := c_num (N := N) (s := s) (q := rn B e 48 57 N s) r2 he hc r3 N s 0 (by omega) r1 (by omega) (by rw [Nat.sub_self]; rfl)
          rw [show nI 0 = 0 from rfl] at hn
          rw [hn, z_ob2, z_ob1]
          exact ⟨_, rfl, fun _ => rfl⟩
        · rw [if_pos (by omega), if_neg (by decide), if_neg h4]
          exact ⟨_, rfl, fun q => by cases q⟩
      · rw [if_neg hy, if_neg hy]
        have ek : ∀ (X : Option (Int32 × Int32 × Int32 × Int32)), (if yB (B s) < nI 48 then f_X4_nextToken_j198 N (yB (B s)) (nI s) (nI s) kind value else if nI 57 < yB (B s) then f_X4_nextToken_j198 N (yB (B s)) (nI s) (nI s) kind value else X) = f_X4_nextToken_j198 N (yB (B s)) (nI s) (nI s) kind value := by
          intro X
          by_cases h3 : yB (B s) < nI 48
          · rw [if_pos h3]
          · rw [if_neg h3]
            rcases h09.2 hy with h4 | h4
            · exact absurd h4 h3
            · rw [if_pos h4]
        rw [ek]
        unfold f_X4_nextToken_j198
        rw [nI_1]
        simp only [yB_59 hb]
        by_cases h5 : B s = 59
        · rw [if_pos h5, if_pos h5]; exact ⟨_, rfl, fun q => by cases q⟩
        · rw [if_neg h5, if_neg h5]; exact ⟨_, rfl, fun q => by cases q⟩
  · rw [if_neg (by rw [z_lt (by omega) (by omega)]; exact h), if_neg h, if_neg h]
    exact ⟨_, rfl, fun q => by cases q⟩
theorem m_tok (hN : 3000 < N) (he : e ≤ 900) (hm : ∀ k, k < e → B k < 256 ∧ m k = yB (B k)) {p : Nat} (hp : p ≤ e) : ∃ w, f_X9_advance N (nI e) (nI p) m = some (nI (skp B e N p), nI (lQ B e N (skp B e N p)), nI (lK B e N (skp B e N p)), w) ∧ (lK B e N (skp B e N p) = 2 → w = nI (vl B (skp B e N p) (lQ B e N (skp B e N p) - skp B e N p))) := by
  obtain ⟨hs1, hs⟩ := skp_in (B := B) (e := e) N p hp
  unfold f_X9_advance
  rw [m_skip he hm N p hp (by omega), z_ob1]
  generalize skp B e N p = s at hs hs1 ⊢
  unfold lQ lK
  rw [m_byte he hm hs, z_ob1]
  by_cases h : s < e
  · obtain ⟨hb, e1⟩ := hm s h
    simp only [if_pos h]
    rw [if_neg (show ¬ nI (B s) = -2 by rw [z_m2 (by omega)]; exact id), show (97 : Int32) = nI 97 from rfl, show (122 : Int32) = nI 122 from rfl, show (48 : Int32) = nI 48 from rfl, show (57 : Int32) = nI 57 from rfl, m_win (by omega) (by omega) (by omega), z_ob1]
    simp only [z_10]
    by_cases hx : 97 ≤ B s ∧ B s ≤ 122
    · obtain ⟨r1, r2, r3⟩ := rn_in (B := B) (e := e) (lo := 97) (hi := 122) N s hs
      rw [if_neg (fun q => q hx), if_pos hx, if_pos hx, m_run he hm N s hs (by omega), z_ob1, z_sub r1, show (8 : Int32) = nI 8 from rfl]
      simp (disch := omega) only [z_le]
      by_cases h8 : rn B e 97 122 N s - s ≤ 8
      · rw [if_pos h8, if_pos h8]; exact ⟨0, rfl, fun q => by cases q⟩
      · rw [if_neg h8, if_neg h8]; exact ⟨0, rfl, fun q => by cases q⟩
    · rw [if_pos hx, if_neg hx, if_neg hx, m_win (by omega) (by omega) (by omega), z_ob1]
      simp only [z_10]
      by_cases hy : 48 ≤ B s ∧ B s ≤ 57
      · obtain ⟨r1, r2, r3⟩ := rn_in (B := B) (e := e) (lo := 48) (hi := 57) N s hs
        have hn := m_num (N := N) (s := s) he hm N s 0 (Nat.le_refl _) hs (by omega) (by rw [Nat.sub_self]; rfl)
        rw [show nI 0 = 0 from rfl] at hn
        rw [if_neg (fun q => q hy), if_pos hy, if_pos hy, hn, z_ob2, z_sub r1, show (4 : Int32) = nI 4 from rfl]
        simp (disch := omega) only [z_le]
        by_cases h4 : rn B e 48 57 N s - s ≤ 4
        · rw [if_pos h4, if_pos h4]
          exact ⟨_, rfl, fun _ => by rw [show min 4 (rn B e 48 57 N s - s) = rn B e 48 57 N s - s by omega]⟩
        · rw [if_neg h4, if_neg h4]; exact ⟨_, rfl, fun q => by cases q⟩
      · have e59 : (nI (B s) = 59) = (B s = 59) := z_eq (b := 59) (by omega) (by omega)
        rw [if_pos hy, if_neg hy, if_neg hy, nI_1]
        simp only [e59]
        by_cases h5 : B s = 59
        · rw [if_pos h5, if_pos h5]; exact ⟨_, rfl, fun q => by cases q⟩
        · rw [if_neg h5, if_neg h5]; exact ⟨_, rfl, fun q => by cases q⟩
  · simp only [if_neg h]
    rw [if_pos trivial]
    exact ⟨_, rfl, fun q => by cases q⟩
end
