/-- sums over 0 .. n - 1 -/
def sm : Nat → (Nat → Nat) → Nat
  | 0, _ => 0
  | n + 1, f => sm n f + f n
theorem sm_0 (f : Nat → Nat) : sm 0 f = 0 := rfl
theorem sm_s (n : Nat) (f : Nat → Nat) : sm (n + 1) f = sm n f + f n := rfl
theorem sm_congr {f g : Nat → Nat} : ∀ {n : Nat}, (∀ k, k < n → f k = g k) → sm n f = sm n g
  | 0, _ => rfl
  | n + 1, h => by rw [sm_s, sm_s, sm_congr (fun k hk => h k (Nat.lt_succ_of_lt hk)), h n (Nat.lt_succ_self n)]
theorem sm_zero : ∀ (n : Nat), sm n (fun _ => 0) = 0
  | 0 => rfl
  | n + 1 => by rw [sm_s, sm_zero n]
theorem sm_add (f g : Nat → Nat) : ∀ n : Nat, sm n (fun k => f k + g k) = sm n f + sm n g
  | 0 => rfl
  | n + 1 => by rw [sm_s, sm_s, sm_s, sm_add f g n]; omega
theorem sm_mul (c : Nat) (f : Nat → Nat) : ∀ n : Nat, sm n (fun k => c * f k) = c * sm n f
  | 0 => rfl
  | n + 1 => by rw [sm_s, sm_s, sm_mul c f n, Nat.mul_add]
theorem sm_mulr (c : Nat) (f : Nat → Nat) (n : Nat) : sm n (fun k => f k * c) = sm n f * c := by
  rw [Nat.mul_comm, ← sm_mul]; exact sm_congr (fun k _ => Nat.mul_comm _ _)
theorem sm_comm (f : Nat → Nat → Nat) (m : Nat) : ∀ n : Nat, sm n (fun a => sm m (fun b => f a b)) = sm m (fun b => sm n (fun a => f a b))
  | 0 => (sm_zero m).symm
  | n + 1 => by rw [sm_s, sm_comm f m n, ← sm_add]; exact sm_congr (fun k _ => rfl)
theorem sm_delta (x : Nat) (f : Nat → Nat) : ∀ n : Nat, sm n (fun k => if k = x then f k else 0) = if x < n then f x else 0
  | 0 => rfl
  | n + 1 => by
    rw [sm_s, sm_delta x f n]
    by_cases h : n = x
    · subst h; rw [if_pos rfl, if_neg (Nat.lt_irrefl _), if_pos (Nat.lt_succ_self _)]; omega
    · rw [if_neg h]
      by_cases h2 : x < n
      · rw [if_pos h2, if_pos (by omega)]; rfl
      · rw [if_neg h2, if_neg (by omega)]
theorem sm_le {f g : Nat → Nat} : ∀ {n : Nat}, (∀ k, k < n → f k ≤ g k) → sm n f ≤ sm n g
  | 0, _ => Nat.le_refl _
  | n + 1, h => by rw [sm_s, sm_s]; exact Nat.add_le_add (sm_le (fun k hk => h k (Nat.lt_succ_of_lt hk))) (h n (Nat.lt_succ_self n))
theorem sm_one {f : Nat → Nat} {k : Nat} : ∀ {n : Nat}, k < n → f k ≤ sm n f
  | 0, h => by omega
  | n + 1, h => by
    rw [sm_s]
    by_cases e : k = n
    · subst e; omega
    · have := sm_one (f := f) (k := k) (n := n) (by omega); omega
theorem sm_const (c : Nat) : ∀ n : Nat, sm n (fun _ => c) = n * c
  | 0 => by rw [sm_0, Nat.zero_mul]
  | n + 1 => by rw [sm_s, sm_const c n, Nat.succ_mul]
theorem sm_mono {f : Nat → Nat} {m : Nat} : ∀ {n : Nat}, m ≤ n → sm m f ≤ sm n f
  | 0, h => by have : m = 0 := by omega
               subst this; exact Nat.le_refl _
  | n + 1, h => by
    by_cases e : m = n + 1
    · subst e; exact Nat.le_refl _
    · have := sm_mono (f := f) (m := m) (n := n) (by omega)
      rw [sm_s]; omega
/-- literals -/
theorem z_lit (n : Nat) : (OfNat.ofNat n : Int32) = nI (OfNat.ofNat n) := rfl
theorem z_litL (n : Nat) : (OfNat.ofNat n : Int64) = lN (OfNat.ofNat n) := rfl
theorem z_gIx {γ : Type} {i n : Nat} {k : Option γ} (h : i < n) (hn : n < 2 ^ 31) : gIx (nI i) n k = k := gIx_in (vp_in_nI h hn)
theorem z_sub {a b : Nat} (h : b ≤ a) : nI a - nI b = nI (a - b) := pk_sub h
theorem z_neg {n : Nat} (h : n < 2 ^ 31) : (nI n < 0) = False := eq_false (nI_pos h)
theorem z_add (a b : Nat) : nI a + nI b = nI (a + b) := nI_add a b
theorem z_mul (a b : Nat) : nI a * nI b = nI (a * b) := pk_mul a b
theorem z_le {a b : Nat} (ha : a < 2 ^ 31) (hb : b < 2 ^ 31) : (nI a ≤ nI b) = (a ≤ b) := propext (nI_leI ha hb)
theorem z_lt {a b : Nat} (ha : a < 2 ^ 31) (hb : b < 2 ^ 31) : (nI a < nI b) = (a < b) := propext (nI_ltI ha hb)
theorem z_eq {a b : Nat} (ha : a < 2 ^ 31) (hb : b < 2 ^ 31) : (nI a = nI b) = (a = b) := propext (nI_eq ha hb)
theorem z_cl {n : Nat} (h : n < 2 ^ 31) : (nI n).toNatClampNeg = n := nI_clamp h
theorem z_l {n : Nat} (h : n < 2 ^ 31) : (nI n).toInt64 = lN n := nI_l h
theorem z_m2 {n : Nat} (h : n < 2 ^ 31) : (nI n = -2) = False := by
  apply eq_false; intro e
  have h1 := nI_toInt h; rw [e] at h1
  have h2 : (-2 : Int32).toInt = -2 := by decide
  omega
theorem z_m2' {n : Nat} (h : n < 2 ^ 31) : (-2 = nI n) = False := by
  apply eq_false; intro e
  exact absurd e.symm (by rw [z_m2 h]; exact id)
theorem z_updL {f : Nat → Int64} {k j : Nat} {x : Int64} : vp_updL f k x j = if j = k then x else f j := rfl
theorem z_upd {f : Nat → Int32} {k j : Nat} {x : Int32} : upd f k x j = if j = k then x else f j := rfl
theorem z_ob1 {a1 γ : Type} {k : a1 → Option γ} {v1 : a1} : ob1 (some v1) k = k v1 := rfl
theorem z_ob2 {a1 a2 γ : Type} {k : a1 → a2 → Option γ} {v1 : a1} {v2 : a2} : ob2 (some (v1, v2)) k = k v1 v2 := rfl
theorem z_ob3 {a1 a2 a3 γ : Type} {k : a1 → a2 → a3 → Option γ} {v1 : a1} {v2 : a2} {v3 : a3} : ob3 (some (v1, v2, v3)) k = k v1 v2 v3 := rfl
theorem z_ob4 {a1 a2 a3 a4 γ : Type} {k : a1 → a2 → a3 → a4 → Option γ} {v1 : a1} {v2 : a2} {v3 : a3} {v4 : a4} : ob4 (some (v1, v2, v3, v4)) k = k v1 v2 v3 v4 := rfl
theorem z_ob5 {a1 a2 a3 a4 a5 γ : Type} {k : a1 → a2 → a3 → a4 → a5 → Option γ} {v1 : a1} {v2 : a2} {v3 : a3} {v4 : a4} {v5 : a5} : ob5 (some (v1, v2, v3, v4, v5)) k = k v1 v2 v3 v4 v5 := rfl
