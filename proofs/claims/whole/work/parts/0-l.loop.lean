variable {G : Nat → Nat → Nat} {regions balloons letters loft start seed count turnCount : Int32} {risk distance comeback capacity pigeons weight priority turnFrom turnTo follow land aimCount aim : Nat → Int32} {mLoft mStart mSeed : Int32} {mRegions mRisk mDistance mBack mWinds mNamed mNR mNW mTurns mTF mTT mTW mBalloons mRoom mPigeons mLetters mWeight mPriority : Nat → Int32}
variable {P : Nat → Nat → Nat} {T : Nat} {day wind loftN lost lc jc : Int32} {ds : Int64} {jk jn jd bst br cg lt an ho du la mNow : Nat → Int32}
/-- the loop over the launches: class and model -/
theorem e_loop {N d n0 : Nat} (hN : 3000 < N) (hG : WF G) (hc : RGc G regions balloons letters loft start seed count turnCount risk distance comeback capacity pigeons weight priority turnFrom turnTo follow land aimCount aim) (m4 : mLetters 0 = nI (G 0 4)) (ha2 : ∀ j, j < P 0 3 → la j = nI (P 1 j) ∧ P 1 j < G 0 3) (hc10 : P 0 3 ≤ 10) (ha3 : ∀ b, b < 10 → P 2 b ≤ 4 ∧ du b = nI (P 3 b) ∧ P 3 b < 2 ^ 30) (hcg : ∀ b, b < 10 → cg b = nI (P 5 b) ∧ P 5 b < 2 ^ G 0 4) (hd : d < 2 ^ 30) (hdu : ∀ b, b < 10 → 0 < P 2 b → d ≤ P 3 b) (hi : RSi G P) (hn0 : n0 ≤ 40) (hlen : (fl (P 1) (P 2) (P 0 3)).length = n0) (h4 : ∀ k, k < G 0 4 → P 4 k < 4) :
    ∀ (r j cf cj : Nat) (loft : Int32) (jk jn jd ho lt an now : Nat → Int32), j + r = P 0 3 → r < cf → JR cj (nI cj) jk jn jd now → now 0 = nI d → now 3 = loft → (∀ q, q < 10 → ho q = nI (hJ (P 1) (P 3) (P 2) d j q)) → (∀ st, st < 4 → lt st = nI (bs (G 0 4) (fun k => eJ (P 1) (P 3) (P 2) (P 5) (P 4) d j k == st))) → (∀ k, k < G 0 4 → now (35 + k) = nI (eJ (P 1) (P 3) (P 2) (P 5) (P 4) d j k)) → (∀ k, k < 24 → an k = now (59 + k)) → (∀ b, b < 10 → now (25 + b) = nI (P 5 b)) → (∀ i q, (fl (P 1) (fun q => if P 3 q = d then 0 else P 2 q) j)[i]? = some q → now (84 + i) = nI q ∧ now (124 + i) = nI (P 3 q)) → (∀ i q, (fl (P 1) (P 2) j).length ≤ i → (fl (P 1) (P 2) (P 0 3))[i]? = some q → now (84 + i) = nI q ∧ now (124 + i) = nI (P 3 q)) →
    ∃ loft' c' jk' jn' jd' ho' lt' an' now', f_X6_passDay_41 N (nI (P 0 3)) balloons letters la du cg (nI d) cf (nI j) loft (nI cj) jk jn jd ho lt an = some (nI (P 0 3), loft', nI c', jk', jn', jd', ho', lt', an') ∧ (∀ m, f_X9_comeBack_12 N mLetters (nI n0) (m + (n0 - (fl (P 1) (P 2) j).length)) (nI (fl (P 1) (P 2) j).length) (nI (fl (P 1) (fun q => if P 3 q = d then 0 else P 2 q) j).length) now = f_X9_comeBack_12 N mLetters (nI n0) m (nI n0) (nI (fl (P 1) (fun q => if P 3 q = d then 0 else P 2 q) (P 0 3)).length) now') ∧ JR c' (nI c') jk' jn' jd' now' ∧ now' 3 = loft' ∧ (∀ q, q < 10 → ho' q = nI (hJ (P 1) (P 3) (P 2) d (P 0 3) q)) ∧ (∀ st, st < 4 → lt' st = nI (bs (G 0 4) (fun k => eJ (P 1) (P 3) (P 2) (P 5) (P 4) d (P 0 3) k == st))) ∧ (∀ k, k < G 0 4 → now' (35 + k) = nI (eJ (P 1) (P 3) (P 2) (P 5) (P 4) d (P 0 3) k)) ∧ (∀ k, k < 24 → an' k = now' (59 + k)) ∧ (∀ i q, (fl (P 1) (fun q => if P 3 q = d then 0 else P 2 q) (P 0 3))[i]? = some q → now' (84 + i) = nI q ∧ now' (124 + i) = nI (P 3 q)) ∧ ∀ q, q < 84 → q ≠ 3 → ¬ (35 ≤ q ∧ q < 83) → now' q = now q := by
  obtain ⟨⟨g0, g1, g2, g3, g4, g5, g6, g7⟩, gr, ⟨gna, gn1, gn2, gn3⟩, ⟨gt1, gt2, gt3⟩, gb, gl⟩ := hG
  obtain ⟨⟨rfl, rfl, rfl, rfl, rfl, rfl, rfl, rfl⟩, cr, cb, cl, ct, cf, cla, cac, cai⟩ := hc
  have hp := z_p24 g4
  obtain ⟨hi1, hi2, hi3, hi4, hi5⟩ := hi
  have hinj : ∀ i j, i < j → j < P 0 3 → P 1 i ≠ P 1 j := by
    intro i j h1 h2 h3
    have hb := (ha2 j h2).2
    refine cnt_inj (l := P 1) (b := P 1 j) (c := P 0 3) ?_ h1 h2 h3 rfl
    rw [hi1 _ (by omega)]; split <;> omega
  intro r
  induction r with
  | zero =>
    intro j cf cj loft jk jn jd ho lt an now hj hcf i1 i2 i3 i4 i5 i6 i7 i8 i9 i10
    have : j = P 0 3 := by omega
    subst this
    obtain ⟨cf', rfl⟩ : ∃ cf', cf = cf' + 1 := ⟨cf - 1, by omega⟩
    refine ⟨loft, cj, jk, jn, jd, ho, lt, an, now, ?_, ?_, i1, i3, i4, i5, i6, i7, i9, fun _ _ _ _ => rfl⟩
    · rw [f_X6_passDay_41.eq_2, if_pos (by rw [z_le (by omega) (by omega)]; omega)]
    · intro m; rw [hlen, Nat.sub_self]; rfl
  | succ r ih =>
    intro j cf cj loft jk jn jd ho lt an now hj hcf i1 i2 i3 i4 i5 i6 i7 i8 i9 i10
    obtain ⟨cf', rfl⟩ : ∃ cf', cf = cf' + 1 := ⟨cf - 1, by omega⟩
    obtain ⟨l1, l2⟩ := ha2 j (by omega)
    obtain ⟨u1, u2, u3⟩ := ha3 (P 1 j) (by omega)
    obtain ⟨s1, s2⟩ := hcg (P 1 j) (by omega)
    have hob : ho (P 1 j) = nI (P 2 (P 1 j)) := by
      rw [i4 _ (by omega), hJ_same (fun i hi => hinj i j hi (by omega))]
    have hk1 : (fl (P 1) (P 2) (j + 1)).length = (fl (P 1) (P 2) j).length + P 2 (P 1 j) := by rw [fl_s, List.length_append, List.length_replicate]
    have hkn : (fl (P 1) (P 2) j).length + P 2 (P 1 j) ≤ n0 := by
      obtain ⟨t, ht⟩ := fl_pre (l := P 1) (h := P 2) (j := j + 1) (c := P 0 3) (by omega)
      rw [← hlen, ht, List.length_append, ← hk1]; omega
    have hst : (fl (P 1) (fun q => if P 3 q = d then 0 else P 2 q) j).length ≤ (fl (P 1) (P 2) j).length := by
      rw [fl_len, fl_len]
      exact sm_le (fun k _ => by split <;> omega)
    have blk : ∀ q, q < P 2 (P 1 j) → now (84 + ((fl (P 1) (P 2) j).length + q)) = nI (P 1 j) ∧ now (124 + ((fl (P 1) (P 2) j).length + q)) = nI (P 3 (P 1 j)) := by
      intro q hq
      exact i10 _ _ (by omega) (fl_at (by omega) hq)
    have e10 : (10 ≤ nI j) = (10 ≤ j) := z_le (a := 10) (by omega) (by omega)
    have ej : nI j + 1 = nI (j + 1) := nI_1 j
    have cstep : f_X6_passDay_41 N (nI (P 0 3)) (nI (G 0 3)) (nI (G 0 4)) la du cg (nI d) (cf' + 1) (nI j) loft (nI cj) jk jn jd ho lt an = ob8 (f_X6_welcomePigeons N (nI (G 0 3)) (nI (G 0 4)) (nI d) loft ho du (nI cj) jk jn jd cg lt an (nI (P 1 j))) (fun loft_1 homing_2 count2_3 kind_4 number_5 day2_6 letters2_7 answeredOn_8 => f_X6_passDay_41 N (nI (P 0 3)) (nI (G 0 3)) (nI (G 0 4)) la du cg (nI d) cf' (nI (j + 1)) loft_1 count2_3 kind_4 number_5 day2_6 homing_2 letters2_7 answeredOn_8) := by
      rw [f_X6_passDay_41.eq_2, if_neg (by rw [z_le (by omega) (by omega)]; omega), if_neg (by rw [e10]; omega), z_gIx (by omega) (by omega), z_cl (by omega), l1, ej]
    have ho0 : (nI (P 2 (P 1 j)) = 0) = (P 2 (P 1 j) = 0) := z_eq (b := 0) (by omega) (by omega)
    have hud : (nI (P 3 (P 1 j)) = nI d) = (P 3 (P 1 j) = d) := z_eq (by omega) (by omega)
    by_cases hdue : 0 < P 2 (P 1 j) ∧ P 3 (P 1 j) = d
    · -- they come back
      obtain ⟨hp0, hpd⟩ := hdue
      have es : ∀ k, k < G 0 4 → (P 5 (P 1 j)).testBit k = true → eJ (P 1) (P 3) (P 2) (P 5) (P 4) d j k = 2 := by
        intro k hk hbt
        rw [eJ_same (fun i hi _ _ => ?_)]
        · exact (hi3 (P 1 j) (by omega) hp0).2 k hk hbt
        · exact hi4 (P 1 j) (P 1 i) k (by omega) (by have := (ha2 i (by omega)).2; omega) (fun t => hinj i j hi (by omega) t.symm) hk hbt
      obtain ⟨r', hr'⟩ : ∃ r', P 2 (P 1 j) = r' + 1 := ⟨P 2 (P 1 j) - 1, by omega⟩
      obtain ⟨loft', c', jk', jn', jd', n1, d1, d2, d3, d4, d5, d6, d7⟩ := e_due (N := N) (n := G 0 4) (b := P 1 j) (s := P 5 (P 1 j)) (d := d) (k := (fl (P 1) (P 2) j).length) (h := P 2 (P 1 j)) (n0 := n0) (letters := mLetters) (ho := ho) hN g4 (by omega) (by omega) m4 hd hn0 hkn hob (nI (fl (P 1) (fun q => if P 3 q = d then 0 else P 2 q) j).length) r' 0 N cj (eJ (P 1) (P 3) (P 2) (P 5) (P 4) d j) loft jk jn jd now (by omega) (by omega) i1 i2 i3 (i8 _ (by omega)) (fun q hq => ⟨i6 q hq, (eJ_lt (h4 q hq)).1⟩) (fun q hq hbt => Or.inl (es q hq hbt)) (fun q _ hq => by have := blk q hq; rw [hpd] at this; exact this)
      obtain ⟨lt1, an1, a1, a2, a3⟩ := s_answer (N := N) (n := G 0 4) (s := P 5 (P 1 j)) (day := nI d) (lt := lt) (an := an) (e := eJ (P 1) (P 3) (P 2) (P 5) (P 4) d j) (by omega) g4 s2 i5 es
      have eJs : ∀ k, eJ (P 1) (P 3) (P 2) (P 5) (P 4) d (j + 1) k = if (P 5 (P 1 j)).testBit k then 3 else eJ (P 1) (P 3) (P 2) (P 5) (P 4) d j k := by
        intro k
        show (if (0 < P 2 (P 1 j) ∧ P 3 (P 1 j) = d) ∧ (P 5 (P 1 j)).testBit k = true then 3 else _) = _
        by_cases hbt : (P 5 (P 1 j)).testBit k = true
        · rw [if_pos ⟨⟨hp0, hpd⟩, hbt⟩, if_pos hbt]
        · rw [if_neg (fun t => hbt t.2), if_neg hbt]
      have hNs : fl (P 1) (fun q => if P 3 q = d then 0 else P 2 q) (j + 1) = fl (P 1) (fun q => if P 3 q = d then 0 else P 2 q) j := by
        rw [fl_s]; simp [hpd]
      obtain ⟨loft2, c2, jk2, jn2, jd2, ho2, lt2, an2, n2, f1, f2, f3, f4, f5, f6, f7, f8, f9, f10⟩ := ih (j + 1) cf' c' loft' jk' jn' jd' (upd ho (P 1 j) 0) lt1 an1 n1 (by omega) (by omega) d3 (by rw [d7 0 (by omega) (by omega) (by omega) (by omega), i2]) d4 (by
          intro q hq
          show upd ho (P 1 j) 0 q = nI (if q = P 1 j ∧ P 3 (P 1 j) = d then 0 else hJ (P 1) (P 3) (P 2) d j q)
          by_cases e : q = P 1 j
          · rw [e, pk_us, if_pos ⟨rfl, hpd⟩]; rfl
          · rw [pk_un e, if_neg (fun t => e t.1)]; exact i4 q hq) (by
          intro st hst
          rw [a2 st hst]
          exact congrArg nI (bs_congr (fun k _ => by rw [eJs k]))) (by
          intro k hk
          rw [d5 k hk, eJs k]) (by
          intro k hk
          rw [a3 k]
          by_cases hk4 : k < G 0 4
          · rw [d6 k hk4]
            by_cases hbt : (P 5 (P 1 j)).testBit k = true
            · rw [if_pos ⟨hk4, hbt⟩, if_pos ⟨hbt, es k hk4 hbt⟩]
            · rw [if_neg (fun t => hbt t.2), if_neg (fun t => hbt t.1)]; exact i7 k hk
          · rw [if_neg (fun t => hk4 t.1), d7 _ (by omega) (by omega) (by omega) (by omega)]; exact i7 k hk) (by
          intro b hb
          rw [d7 _ (by omega) (by omega) (by omega) (by omega)]; exact i8 b hb) (by
          intro i q hq
          rw [hNs] at hq
          have hil : i < (fl (P 1) (fun q => if P 3 q = d then 0 else P 2 q) j).length := (List.getElem?_eq_some_iff.mp hq).1
          rw [d7 _ (by omega) (by omega) (by omega) (by omega), d7 _ (by omega) (by omega) (by omega) (by omega)]; exact i9 i q hq) (by
          intro i q hq1 hq2
          have hil : i < n0 := by rw [← hlen]; exact (List.getElem?_eq_some_iff.mp hq2).1
          rw [d7 _ (by omega) (by omega) (by omega) (by omega), d7 _ (by omega) (by omega) (by omega) (by omega)]; exact i10 i q (by omega) hq2)
      refine ⟨loft2, c2, jk2, jn2, jd2, ho2, lt2, an2, n2, ?_, ?_, f3, f4, f5, f6, f7, f8, f9, ?_⟩
      · rw [cstep]
        unfold f_X6_welcomePigeons
        rw [show nI 0 = 0 from rfl] at d1
        rw [z_hasB, z_ob1, if_neg (z_nj l2 (by omega)), if_neg (by decide), z_gIx (by omega) (by omega), z_cl (by omega), hob, if_neg (by rw [ho0]; omega), z_gIx (by omega) (by omega), u2, if_pos (by rw [hud]; exact hpd), d1]
        rw [show ∀ (k : Int32 → Int32 → Int32 → (Nat → Int32) → (Nat → Int32) → (Nat → Int32) → Option (Int32 × (Nat → Int32) × Int32 × (Nat → Int32) × (Nat → Int32) × (Nat → Int32) × (Nat → Int32) × (Nat → Int32))), ob6 (some (nI (P 2 (P 1 j)), loft', nI c', jk', jn', jd')) k = k (nI (P 2 (P 1 j))) loft' (nI c') jk' jn' jd' from fun _ => rfl]
        rw [z_gIx (by omega) (by omega), z_gIx (by omega) (by omega), s1, a1, z_ob2]
        exact f1
      · intro m
        have e2 := f2 m
        rw [hNs] at e2
        rw [show m + (n0 - (fl (P 1) (P 2) j).length) = m + (n0 - (fl (P 1) (P 2) (j + 1)).length) + (r' + 1) by omega]
        refine Eq.trans (d2 (m + (n0 - (fl (P 1) (P 2) (j + 1)).length))) ?_
        rw [← hk1]; exact e2
      · intro q q1 q2 q3
        rw [f10 q q1 q2 q3, d7 q (by omega) q2 (by omega) (by omega)]
    · -- they stay
      have eJs : ∀ k, eJ (P 1) (P 3) (P 2) (P 5) (P 4) d (j + 1) k = eJ (P 1) (P 3) (P 2) (P 5) (P 4) d j k := by
        intro k
        show (if (0 < P 2 (P 1 j) ∧ P 3 (P 1 j) = d) ∧ (P 5 (P 1 j)).testBit k = true then 3 else _) = _
        rw [if_neg (fun t => hdue t.1)]
      have hJs : ∀ q, hJ (P 1) (P 3) (P 2) d (j + 1) q = hJ (P 1) (P 3) (P 2) d j q := by
        intro q
        show (if q = P 1 j ∧ P 3 (P 1 j) = d then 0 else hJ (P 1) (P 3) (P 2) d j q) = hJ (P 1) (P 3) (P 2) d j q
        by_cases e : q = P 1 j ∧ P 3 (P 1 j) = d
        · rw [if_pos e, e.1, hJ_same (fun i hi => hinj i j hi (by omega))]
          have : ¬ 0 < P 2 (P 1 j) := fun t => hdue ⟨t, e.2⟩
          omega
        · rw [if_neg e]
      have hNv : (if P 3 (P 1 j) = d then 0 else P 2 (P 1 j)) = P 2 (P 1 j) := by
        by_cases e : P 3 (P 1 j) = d
        · rw [if_pos e]
          have : ¬ 0 < P 2 (P 1 j) := fun t => hdue ⟨t, e⟩
          omega
        · rw [if_neg e]
      have hNs : fl (P 1) (fun q => if P 3 q = d then 0 else P 2 q) (j + 1) = fl (P 1) (fun q => if P 3 q = d then 0 else P 2 q) j ++ List.replicate (P 2 (P 1 j)) (P 1 j) := by
        rw [fl_s, hNv]
      have hwel : f_X6_welcomePigeons N (nI (G 0 3)) (nI (G 0 4)) (nI d) loft ho du (nI cj) jk jn jd cg lt an (nI (P 1 j)) = some (loft, ho, nI cj, jk, jn, jd, lt, an) := by
        unfold f_X6_welcomePigeons
        rw [z_hasB, z_ob1, if_neg (z_nj l2 (by omega)), if_neg (by decide), z_gIx (by omega) (by omega), z_cl (by omega), hob]
        by_cases e : P 2 (P 1 j) = 0
        · rw [if_pos (by rw [ho0]; exact e)]
        · rw [if_neg (by rw [ho0]; exact e), z_gIx (by omega) (by omega), u2, if_neg (by rw [hud]; exact fun t => hdue ⟨by omega, t⟩)]
      obtain ⟨n1, k1, k2, k3⟩ : ∃ n1, (∀ m, f_X9_comeBack_12 N mLetters (nI n0) (m + P 2 (P 1 j)) (nI ((fl (P 1) (P 2) j).length)) (nI ((fl (P 1) (fun q => if P 3 q = d then 0 else P 2 q) j).length)) now = f_X9_comeBack_12 N mLetters (nI n0) m (nI ((fl (P 1) (P 2) j).length + P 2 (P 1 j))) (nI ((fl (P 1) (fun q => if P 3 q = d then 0 else P 2 q) j).length + P 2 (P 1 j))) n1) ∧ (∀ q, q < P 2 (P 1 j) → n1 (84 + ((fl (P 1) (fun q => if P 3 q = d then 0 else P 2 q) j).length + q)) = nI (P 1 j) ∧ n1 (124 + ((fl (P 1) (fun q => if P 3 q = d then 0 else P 2 q) j).length + q)) = nI (P 3 (P 1 j))) ∧ (∀ q, ¬ (84 + ((fl (P 1) (fun q => if P 3 q = d then 0 else P 2 q) j).length) ≤ q ∧ q < 84 + ((fl (P 1) (fun q => if P 3 q = d then 0 else P 2 q) j).length + P 2 (P 1 j))) → ¬ (124 + ((fl (P 1) (fun q => if P 3 q = d then 0 else P 2 q) j).length) ≤ q ∧ q < 124 + ((fl (P 1) (fun q => if P 3 q = d then 0 else P 2 q) j).length + P 2 (P 1 j))) → n1 q = now q) := by
        by_cases e : P 2 (P 1 j) = 0
        · refine ⟨now, fun m => by rw [e]; rfl, fun q hq => by omega, fun _ _ _ => rfl⟩
        · have hlt : d < P 3 (P 1 j) := by
            have h1 := hdu (P 1 j) (by omega) (by omega)
            have h2 : ¬ P 3 (P 1 j) = d := fun t => hdue ⟨by omega, t⟩
            omega
          have := fun m => m_keep (N := N) (b := P 1 j) (ub := P 3 (P 1 j)) (k := (fl (P 1) (P 2) j).length) (st := (fl (P 1) (fun q => if P 3 q = d then 0 else P 2 q) j).length) (h := P 2 (P 1 j)) (d := d) (letters := mLetters) (z := nI n0) ⟨n0, rfl, hn0, hkn⟩ hst (by omega) hlt (P 2 (P 1 j)) 0 m now (by omega) i2 (fun q _ hq => blk q hq)
          obtain ⟨n1, q1, q2, q3⟩ := this 0
          refine ⟨n1, fun m => ?_, fun q hq => q2 q (by omega) hq, q3⟩
          obtain ⟨n1', q1', q2', q3'⟩ := this m
          have : n1' = n1 := by
            funext q
            by_cases c1 : 84 + ((fl (P 1) (fun q => if P 3 q = d then 0 else P 2 q) j).length + 0) ≤ q ∧ q < 84 + ((fl (P 1) (fun q => if P 3 q = d then 0 else P 2 q) j).length + P 2 (P 1 j))
            · have t1 := (q2 (q - 84 - (fl (P 1) (fun q => if P 3 q = d then 0 else P 2 q) j).length) (by omega) (by omega)).1
              have t2 := (q2' (q - 84 - (fl (P 1) (fun q => if P 3 q = d then 0 else P 2 q) j).length) (by omega) (by omega)).1
              rw [show 84 + ((fl (P 1) (fun q => if P 3 q = d then 0 else P 2 q) j).length + (q - 84 - (fl (P 1) (fun q => if P 3 q = d then 0 else P 2 q) j).length)) = q by omega] at t1 t2
              rw [t1, t2]
            · by_cases c2 : 124 + ((fl (P 1) (fun q => if P 3 q = d then 0 else P 2 q) j).length + 0) ≤ q ∧ q < 124 + ((fl (P 1) (fun q => if P 3 q = d then 0 else P 2 q) j).length + P 2 (P 1 j))
              · have t1 := (q2 (q - 124 - (fl (P 1) (fun q => if P 3 q = d then 0 else P 2 q) j).length) (by omega) (by omega)).2
                have t2 := (q2' (q - 124 - (fl (P 1) (fun q => if P 3 q = d then 0 else P 2 q) j).length) (by omega) (by omega)).2
                rw [show 124 + ((fl (P 1) (fun q => if P 3 q = d then 0 else P 2 q) j).length + (q - 124 - (fl (P 1) (fun q => if P 3 q = d then 0 else P 2 q) j).length)) = q by omega] at t1 t2
                rw [t1, t2]
              · rw [q3' q c1 c2, q3 q c1 c2]
          rw [Nat.add_zero, Nat.add_zero] at q1'
          rw [q1', this]
      obtain ⟨loft2, c2, jk2, jn2, jd2, ho2, lt2, an2, n2, f1, f2, f3, f4, f5, f6, f7, f8, f9, f10⟩ := ih (j + 1) cf' cj loft jk jn jd ho lt an n1 (by omega) (by omega) (i1.frame (fun q hq => k3 q (by omega) (by omega))) (by rw [k3 0 (by omega) (by omega), i2]) (by rw [k3 3 (by omega) (by omega), i3]) (by
          intro q hq
          rw [hJs q]; exact i4 q hq) (by
          intro st hst
          rw [i5 st hst]
          exact congrArg nI (bs_congr (fun k _ => by rw [eJs k]))) (by
          intro k hk
          rw [k3 _ (by omega) (by omega), eJs k]; exact i6 k hk) (by
          intro k hk
          rw [k3 _ (by omega) (by omega)]; exact i7 k hk) (by
          intro b hb
          rw [k3 _ (by omega) (by omega)]; exact i8 b hb) (by
          intro i q hq
          rw [hNs] at hq
          by_cases hil : i < (fl (P 1) (fun q => if P 3 q = d then 0 else P 2 q) j).length
          · rw [List.getElem?_append_left hil] at hq
            rw [k3 _ (by omega) (by omega), k3 _ (by omega) (by omega)]; exact i9 i q hq
          · rw [List.getElem?_append_right (by omega), List.getElem?_replicate] at hq
            by_cases h2 : i - (fl (P 1) (fun q => if P 3 q = d then 0 else P 2 q) j).length < P 2 (P 1 j)
            · rw [if_pos h2] at hq
              cases hq
              have := k2 _ h2
              rw [show (fl (P 1) (fun q => if P 3 q = d then 0 else P 2 q) j).length + (i - (fl (P 1) (fun q => if P 3 q = d then 0 else P 2 q) j).length) = i by omega] at this
              exact this
            · rw [if_neg h2] at hq; cases hq) (by
          intro i q hq1 hq2
          have hil : i < n0 := by rw [← hlen]; exact (List.getElem?_eq_some_iff.mp hq2).1
          rw [k3 _ (by omega) (by omega), k3 _ (by omega) (by omega)]; exact i10 i q (by omega) hq2)
      refine ⟨loft2, c2, jk2, jn2, jd2, ho2, lt2, an2, n2, ?_, ?_, f3, f4, f5, f6, f7, f8, f9, ?_⟩
      · rw [cstep, hwel]
        exact f1
      · intro m
        have e1 := k1 (m + (n0 - (fl (P 1) (P 2) (j + 1)).length))
        have e2 := f2 m
        rw [hNs, List.length_append, List.length_replicate, hk1] at e2
        rw [show m + (n0 - (fl (P 1) (P 2) j).length) = m + (n0 - (fl (P 1) (P 2) (j + 1)).length) + P 2 (P 1 j) by omega, e1, ← e2, hk1]
      · intro q q1 q2 q3
        rw [f10 q q1 q2 q3, k3 q (by omega) (by omega)]
