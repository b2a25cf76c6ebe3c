theorem JR.frame {c : Nat} {jc : Int32} {jk jn jd now now' : Nat → Int32} (h : JR c jc jk jn jd now) (hq : ∀ q, 164 ≤ q → now' q = now q) : JR c jc jk jn jd now' := by
  obtain ⟨h1, h2, h3, h4⟩ := h
  refine ⟨h1, by rw [hq 164 (by omega)]; exact h2, h3, fun j hj => ?_⟩
  rw [hq _ (by omega), hq _ (by omega), hq _ (by omega)]; exact h4 j hj
/-- the pigeons of one balloon come back -/
theorem e_due {N n b s d k h n0 : Nat} {letters ho : Nat → Int32} (hN : 3000 < N) (hn : n ≤ 24) (hb : b < 10) (hs : s < 2 ^ 31) (h0 : letters 0 = nI n) (hd : d < 2 ^ 30) (hn0 : n0 ≤ 40) (hkh : k + h ≤ n0) (hho : ho b = nI h) (S : Int32) : ∀ (r i cf c : Nat) (e : Nat → Nat) (loft : Int32) (jk jn jd now : Nat → Int32), i + (r + 1) = h → r + 1 < cf → JR c (nI c) jk jn jd now → now 0 = nI d → now 3 = loft → now (25 + b) = nI s → (∀ q, q < n → now (35 + q) = nI (e q) ∧ e q < 4) → (∀ q, q < n → s.testBit q = true → e q = 2 ∨ e q = 3) → (∀ q, i ≤ q → q < h → now (84 + (k + q)) = nI b ∧ now (124 + (k + q)) = nI d) → ∃ loft' c' jk' jn' jd' now', f_X6_welcomePigeons_33 N (nI d) ho (nI b) cf (nI i) loft (nI c) jk jn jd = some (nI h, loft', nI c', jk', jn', jd') ∧ (∀ m, f_X9_comeBack_12 N letters (nI n0) (m + (r + 1)) (nI (k + i)) S now = f_X9_comeBack_12 N letters (nI n0) m (nI (k + h)) S now') ∧ JR c' (nI c') jk' jn' jd' now' ∧ now' 3 = loft' ∧ (∀ q, q < n → now' (35 + q) = nI (if s.testBit q then 3 else e q)) ∧ (∀ q, q < n → now' (59 + q) = if s.testBit q = true ∧ e q = 2 then nI d else now (59 + q)) ∧ ∀ q, q < 164 → q ≠ 3 → ¬ (35 ≤ q ∧ q < 35 + n) → ¬ (59 ≤ q ∧ q < 59 + n) → now' q = now q := by
  intro r
  induction r with
  | zero =>
    intro i cf c e loft jk jn jd now hi hcf hj z0 z3 z25 ze zs zq
    obtain ⟨p1, p2⟩ := zq i (by omega) (by omega)
    have hj1 : JR c (nI c) jk jn jd (upd now 3 (loft + 1)) := hj.frame (fun q hq => pk_un (by omega))
    obtain ⟨c', jk', jn', jd', n2, a1, a2, a3, a4⟩ := e_note (N := N) hN hj1 (show upd now 3 (loft + 1) 0 = nI d by rw [pk_un (by omega), z0]) 4 (nI b)
    obtain ⟨n3, b1, b2, b3, b4⟩ := m_answers (N := N) (n := n) (b := b) (s := s) (d := d) (e := e) (now := n2) (by omega) hn hb hs h0 (fun q hq => (ze q hq).2) (by rw [a4 0 (by omega), pk_un (by omega), z0]) (by rw [a4 _ (by omega), pk_un (by omega), z25]) (fun q hq => by rw [a4 _ (by omega), pk_un (by omega)]; exact (ze q hq).1)
    have a84 : (84 : Int32) + nI (k + i) = nI (84 + (k + i)) := by rw [show (84 : Int32) = nI 84 from rfl, z_add]
    have a124 : (124 : Int32) + nI (k + i) = nI (124 + (k + i)) := by rw [show (124 : Int32) = nI 124 from rfl, z_add]
    have i0 : ∀ k, gIx (γ := Int32 × Int32 × (Nat → Int32)) 0 213 k = k := fun k => z_gIx (i := 0) (by omega) (by omega)
    have i3 : ∀ k, gIx (γ := Int32 × Int32 × (Nat → Int32)) 3 213 k = k := fun k => z_gIx (i := 3) (by omega) (by omega)
    have c3 : (3 : Int32).toNatClampNeg = 3 := rfl
    have e1 : nI (k + i) + 1 = nI (k + h) := by rw [nI_1, show k + i + 1 = k + h by omega]
    refine ⟨loft + 1, c', jk', jn', jd', n3, ?_, ?_, ?_, ?_, ?_, ?_, ?_⟩
    · obtain ⟨cf', rfl⟩ : ∃ cf', cf = cf' + 2 := ⟨cf - 2, by omega⟩
      have e2 : nI i + 1 = nI h := by rw [nI_1, show i + 1 = h by omega]
      rw [f_X6_welcomePigeons_33.eq_2, z_gIx hb (by omega), z_cl (by omega), hho, if_neg (by rw [z_le (by omega) (by omega)]; omega), a1, z_ob4, e2, f_X6_welcomePigeons_33.eq_2, z_gIx hb (by omega), z_cl (by omega), hho, if_pos (by rw [z_le (by omega) (by omega)]; omega)]
    · intro m
      rw [f_X9_comeBack_12.eq_2, if_neg (by rw [z_le (by omega) (by omega)]; omega), a84, a124, z_gIx (by omega) (by omega), z_gIx (by omega) (by omega), i0, z_cl (n := 84 + (k + i)) (by omega), z_cl (n := 124 + (k + i)) (by omega), p1, p2, z_c0, z0, if_pos (by rw [z_le (by omega) (by omega)]; omega), i3, i3, c3, z3, a2, z_ob1, b1, z_ob1, e1]
    · exact a3.frame (fun q hq => b4 q (by omega) (by omega))
    · rw [b4 3 (by omega) (by omega), a4 3 (by omega), pk_us]
    · intro q hq
      rw [b2 q hq]
      refine congrArg nI ?_
      by_cases hb : s.testBit q = true
      · rw [if_pos hb]
        rcases zs q hq hb with e2 | e3
        · rw [if_pos ⟨hb, e2⟩]
        · rw [if_neg (by omega), e3]
      · rw [if_neg hb, if_neg (fun t => hb t.1)]
    · intro q hq
      rw [b3 q hq, a4 _ (by omega), pk_un (by omega)]
    · intro q h1 h2 h3 h4
      rw [b4 q h3 h4, a4 q h1, pk_un h2]
  | succ r ih =>
    intro i cf c e loft jk jn jd now hi hcf hj z0 z3 z25 ze zs zq
    obtain ⟨p1, p2⟩ := zq i (by omega) (by omega)
    have hj1 : JR c (nI c) jk jn jd (upd now 3 (loft + 1)) := hj.frame (fun q hq => pk_un (by omega))
    obtain ⟨c', jk', jn', jd', n2, a1, a2, a3, a4⟩ := e_note (N := N) hN hj1 (show upd now 3 (loft + 1) 0 = nI d by rw [pk_un (by omega), z0]) 4 (nI b)
    obtain ⟨n3, b1, b2, b3, b4⟩ := m_answers (N := N) (n := n) (b := b) (s := s) (d := d) (e := e) (now := n2) (by omega) hn hb hs h0 (fun q hq => (ze q hq).2) (by rw [a4 0 (by omega), pk_un (by omega), z0]) (by rw [a4 _ (by omega), pk_un (by omega), z25]) (fun q hq => by rw [a4 _ (by omega), pk_un (by omega)]; exact (ze q hq).1)
    have a84 : (84 : Int32) + nI (k + i) = nI (84 + (k + i)) := by rw [show (84 : Int32) = nI 84 from rfl, z_add]
    have a124 : (124 : Int32) + nI (k + i) = nI (124 + (k + i)) := by rw [show (124 : Int32) = nI 124 from rfl, z_add]
    have i0 : ∀ k, gIx (γ := Int32 × Int32 × (Nat → Int32)) 0 213 k = k := fun k => z_gIx (i := 0) (by omega) (by omega)
    have i3 : ∀ k, gIx (γ := Int32 × Int32 × (Nat → Int32)) 3 213 k = k := fun k => z_gIx (i := 3) (by omega) (by omega)
    have c3 : (3 : Int32).toNatClampNeg = 3 := rfl
    have e1 : nI (k + i) + 1 = nI (k + (i + 1)) := nI_1 _
    have n3e : ∀ q, q < n → n3 (35 + q) = nI (if s.testBit q then 3 else e q) := by
      intro q hq
      rw [b2 q hq]
      refine congrArg nI ?_
      by_cases hb : s.testBit q = true
      · rw [if_pos hb]
        rcases zs q hq hb with e2 | e3
        · rw [if_pos ⟨hb, e2⟩]
        · rw [if_neg (by omega), e3]
      · rw [if_neg hb, if_neg (fun t => hb t.1)]
    have fr : ∀ q, q < 164 → q ≠ 3 → ¬ (35 ≤ q ∧ q < 35 + n) → ¬ (59 ≤ q ∧ q < 59 + n) → n3 q = now q := by
      intro q h1 h2 h3 h4
      rw [b4 q h3 h4, a4 q h1, pk_un h2]
    obtain ⟨cf', rfl⟩ : ∃ cf', cf = cf' + 1 := ⟨cf - 1, by omega⟩
    obtain ⟨loft', c'', jk'', jn'', jd'', n4, d1, d2, d3, d4, d5, d6, d7⟩ := ih (i + 1) cf' c' (fun q => if s.testBit q then 3 else e q) (loft + 1) jk' jn' jd' n3 (by omega) (by omega) (a3.frame (fun q hq => b4 q (by omega) (by omega))) (by rw [fr 0 (by omega) (by omega) (by omega) (by omega), z0]) (by rw [b4 3 (by omega) (by omega), a4 3 (by omega), pk_us]) (by rw [fr _ (by omega) (by omega) (by omega) (by omega), z25]) (fun q hq => ⟨n3e q hq, by have := (ze q hq).2; split <;> omega⟩) (fun q hq hbt => Or.inr (if_pos hbt)) (fun q q1 q2 => by
      rw [fr _ (by omega) (by omega) (by omega) (by omega), fr _ (by omega) (by omega) (by omega) (by omega)]; exact zq q (by omega) q2)
    refine ⟨loft', c'', jk'', jn'', jd'', n4, ?_, ?_, d3, d4, ?_, ?_, ?_⟩
    · have e2 : nI i + 1 = nI (i + 1) := nI_1 i
      rw [f_X6_welcomePigeons_33.eq_2, z_gIx hb (by omega), z_cl (by omega), hho, if_neg (by rw [z_le (by omega) (by omega)]; omega), a1, z_ob4, e2]
      exact d1
    · intro m
      rw [show m + (r + 1 + 1) = (m + (r + 1)) + 1 by omega, f_X9_comeBack_12.eq_2, if_neg (by rw [z_le (by omega) (by omega)]; omega), a84, a124, z_gIx (by omega) (by omega), z_gIx (by omega) (by omega), i0, z_cl (n := 84 + (k + i)) (by omega), z_cl (n := 124 + (k + i)) (by omega), p1, p2, z_c0, z0, if_pos (by rw [z_le (by omega) (by omega)]; omega), i3, i3, c3, z3, a2, z_ob1, b1, z_ob1, e1]
      exact d2 m
    · intro q hq
      rw [d5 q hq]
      refine congrArg nI ?_
      by_cases hb : s.testBit q = true
      · rw [if_pos hb, if_pos hb]
      · rw [if_neg hb]
    · intro q hq
      rw [d6 q hq, b3 q hq, a4 _ (by omega), pk_un (by omega), if_neg]
      intro t
      rw [if_pos t.1] at t
      omega
    · intro q h1 h2 h3 h4
      rw [d7 q h1 h2 h3 h4, fr q h1 h2 h3 h4]
theorem fl_pre {l h : Nat → Nat} {j : Nat} : ∀ {c : Nat}, j ≤ c → ∃ t, fl l h c = fl l h j ++ t
  | 0, hj => ⟨[], by have : j = 0 := by omega
                     subst this; rw [List.append_nil]⟩
  | c + 1, hj => by
    by_cases e : j = c + 1
    · subst e; exact ⟨[], by rw [List.append_nil]⟩
    · obtain ⟨t, ht⟩ := fl_pre (l := l) (h := h) (j := j) (c := c) (by omega)
      exact ⟨t ++ List.replicate (h (l c)) (l c), by rw [fl_s, ht, List.append_assoc]⟩
theorem fl_at {l h : Nat → Nat} {j c q : Nat} (hj : j < c) (hq : q < h (l j)) : (fl l h c)[(fl l h j).length + q]? = some (l j) := by
  obtain ⟨t, ht⟩ := fl_pre (l := l) (h := h) (j := j + 1) (c := c) (by omega)
  rw [ht, fl_s, List.append_assoc, List.getElem?_append_right (by omega), List.getElem?_append_left (by rw [List.length_replicate]; omega), List.getElem?_replicate, if_pos (by omega)]
/-- homing and letters while the balloons are gone through -/
def hJ (l u h0 : Nat → Nat) (d : Nat) : Nat → Nat → Nat
  | 0 => h0
  | j + 1 => fun q => if q = l j ∧ u (l j) = d then 0 else hJ l u h0 d j q
def eJ (l u h0 cg e0 : Nat → Nat) (d : Nat) : Nat → Nat → Nat
  | 0 => e0
  | j + 1 => fun k => if (0 < h0 (l j) ∧ u (l j) = d) ∧ (cg (l j)).testBit k = true then 3 else eJ l u h0 cg e0 d j k
theorem hJ_same {l u h0 : Nat → Nat} {d q : Nat} : ∀ {j : Nat}, (∀ i, i < j → l i ≠ q) → hJ l u h0 d j q = h0 q
  | 0, _ => rfl
  | j + 1, h => by
    show (if q = l j ∧ u (l j) = d then 0 else hJ l u h0 d j q) = h0 q
    rw [if_neg (fun t => h j (by omega) t.1.symm)]
    exact hJ_same (fun i hi => h i (by omega))
theorem eJ_same {l u h0 cg e0 : Nat → Nat} {d k : Nat} : ∀ {j : Nat}, (∀ i, i < j → 0 < h0 (l i) → u (l i) = d → (cg (l i)).testBit k = false) → eJ l u h0 cg e0 d j k = e0 k
  | 0, _ => rfl
  | j + 1, h => by
    show (if (0 < h0 (l j) ∧ u (l j) = d) ∧ (cg (l j)).testBit k = true then 3 else eJ l u h0 cg e0 d j k) = e0 k
    rw [if_neg (fun t => by have := h j (by omega) t.1.1 t.1.2; rw [this] at t; exact absurd t.2 (by decide))]
    exact eJ_same (fun i hi => h i (by omega))
theorem eJ_lt {l u h0 cg e0 : Nat → Nat} {d k : Nat} (h : e0 k < 4) : ∀ {j : Nat}, eJ l u h0 cg e0 d j k < 4 ∧ (e0 k ≠ 0 → eJ l u h0 cg e0 d j k ≠ 0)
  | 0 => ⟨h, id⟩
  | j + 1 => by
    have := eJ_lt (l := l) (u := u) (h0 := h0) (cg := cg) (d := d) h (j := j)
    show (if (0 < h0 (l j) ∧ u (l j) = d) ∧ (cg (l j)).testBit k = true then 3 else eJ l u h0 cg e0 d j k) < 4 ∧ (e0 k ≠ 0 → (if (0 < h0 (l j) ∧ u (l j) = d) ∧ (cg (l j)).testBit k = true then 3 else eJ l u h0 cg e0 d j k) ≠ 0)
    split
    · exact ⟨by omega, fun _ => by omega⟩
    · exact this
theorem hJ_fin {l u h0 : Nat → Nat} {d q : Nat} : ∀ {j : Nat}, (∃ i, i < j ∧ l i = q) → hJ l u h0 d j q = if u q = d then 0 else h0 q
  | 0, h => by obtain ⟨i, hi, _⟩ := h; omega
  | j + 1, h => by
    show (if q = l j ∧ u (l j) = d then 0 else hJ l u h0 d j q) = _
    by_cases e : q = l j
    · by_cases e2 : u q = d
      · rw [if_pos ⟨e, by rw [← e]; exact e2⟩, if_pos e2]
      · rw [if_neg (fun t => e2 (by rw [e]; exact t.2)), if_neg e2]
        by_cases e3 : ∃ i, i < j ∧ l i = q
        · rw [hJ_fin e3, if_neg e2]
        · exact hJ_same (fun i hi t => e3 ⟨i, hi, t⟩)
    · rw [if_neg (fun t => e t.1)]
      obtain ⟨i, hi, hl⟩ := h
      have : i ≠ j := fun t => e (by rw [← t]; exact hl.symm)
      exact hJ_fin ⟨i, by omega, hl⟩
theorem cnt_inj {c b : Nat} {l : Nat → Nat} (h : sm c (fun j => if l j = b then 1 else 0) ≤ 1) {i j : Nat} (hi : i < j) (hj : j < c) (h1 : l i = b) (h2 : l j = b) : False := by
  have e1 := sm_mono (f := fun j => if l j = b then 1 else 0) (m := j + 1) (n := c) (by omega)
  have e2 := sm_one (f := fun j => if l j = b then 1 else 0) (k := i) (n := j) hi
  rw [sm_s] at e1
  simp only [h1, h2, if_true] at e1 e2
  omega
