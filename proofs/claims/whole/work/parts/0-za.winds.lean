variable {G : Nat → Nat → Nat} {regions balloons letters loft start seed count turnCount : Int32} {risk distance comeback capacity pigeons weight priority turnFrom turnTo follow land aimCount aim : Nat → Int32} {mLoft mStart mSeed : Int32} {mRegions mRisk mDistance mBack mWinds mNamed mNR mNW mTurns mTF mTT mTW mBalloons mRoom mPigeons mLetters mWeight mPriority : Nat → Int32}
variable {G0 : Nat → Nat → Nat}
section
variable {N e : Nat} {c m : Nat → Int32} {S Q K V : Nat → Nat} {st nx tk vv : Int32} {p : Nat}
theorem tS_no {w : Nat} (hG : WF G) (h : G 0 1 ≤ w) : tS (G 0 2) (G 7) (G 9) w = 0 := by
  obtain ⟨⟨g0, g1, g2, g3, g4, g5, g6, g7⟩, gr, ⟨gna, gn1, gn2, gn3⟩, ⟨gt1, gt2, gt3⟩, gb, gl⟩ := hG
  exact (sm_congr (fun k hk => if_neg (by have := (gt1 k hk).1; omega))).trans (sm_zero _)
theorem tP_no {w v : Nat} (hG : WF G) (h : G 0 1 ≤ w) : tP (G 0 2) (G 7) (G 8) (G 9) w v = 0 := by
  have h1 := tP_le (nT := G 0 2) (tf := G 7) (tt := G 8) (tw := G 9) w v
  rw [tS_no hG h] at h1
  omega
theorem lS_eq {n4 n6 n4' n6' : Nat → Nat} {w : Nat} (h4 : n4' w = n4 w) (h6 : ∀ j, j < n4 w → n6' (8 * w + j) = n6 (8 * w + j)) : lS n4' n6' w = lS n4 n6 w := by
  unfold lS; rw [h4]; exact sm_congr h6
theorem lP_eq {n4 n5 n6 n4' n5' n6' : Nat → Nat} {w r : Nat} (h4 : n4' w = n4 w) (h5 : ∀ j, j < n4 w → n5' (8 * w + j) = n5 (8 * w + j)) (h6 : ∀ j, j < n4 w → n6' (8 * w + j) = n6 (8 * w + j)) : lP n4' n5' n6' w r = lP n4 n5 n6 w r := by
  unfold lP; rw [h4]; exact sm_congr (fun j hj => by rw [h5 j hj, h6 j hj])
theorem lT_eq {n4 n5 n6 n4' n5' n6' : Nat → Nat} {w r : Nat} (h4 : n4' w = n4 w) (h5 : ∀ j, j < n4 w → n5' (8 * w + j) = n5 (8 * w + j)) (h6 : ∀ j, j < n4 w → n6' (8 * w + j) = n6 (8 * w + j)) : lT n4' n5' n6' w r = lT n4 n5 n6 w r := by
  unfold lT; rw [lS_eq h4 h6, lP_eq h4 h5 h6]
/-- a new wind -/
def gW (G : Nat → Nat → Nat) : Nat → Nat → Nat := gU (gU G 4 (G 0 1) 0) 0 1 (G 0 1 + 1)
theorem gW4 (w : Nat) : gW G 4 w = if w = G 0 1 then 0 else G 4 w := rfl
theorem WF_wind (hG : WF G) (hn : G 0 1 < 6) : WF (gW G) := by
  obtain ⟨⟨g0, g1, g2, g3, g4, g5, g6, g7⟩, gr, ⟨gna, gn1, gn2, gn3⟩, ⟨gt1, gt2, gt3⟩, gb, gl⟩ := hG
  refine ⟨⟨g0, by show G 0 1 + 1 ≤ 6; omega, g2, g3, g4, g5, by show G 0 6 < G 0 1 + 1 ∨ G 0 6 = 0; omega, g7⟩, gr, ⟨fun w hw => ?_, fun w k hw hk => ?_, fun w k j hw hk hj => ?_, fun w hw => ?_⟩, ⟨fun k hk => ?_, gt2, gt3⟩, gb, gl⟩
  · have hw : w < G 0 1 + 1 := hw
    rw [gW4]
    by_cases e1 : w = G 0 1
    · rw [if_pos e1]; omega
    · rw [if_neg e1]; exact gna w (by omega)
  · have hw : w < G 0 1 + 1 := hw
    rw [gW4] at hk
    by_cases e1 : w = G 0 1
    · rw [if_pos e1] at hk; omega
    · rw [if_neg e1] at hk; exact gn1 w k (by omega) hk
  · have hw : w < G 0 1 + 1 := hw
    rw [gW4] at hk
    by_cases e1 : w = G 0 1
    · rw [if_pos e1] at hk; omega
    · rw [if_neg e1] at hk; exact gn2 w k j (by omega) hk hj
  · have hw : w < G 0 1 + 1 := hw
    by_cases e1 : w = G 0 1
    · have : lS (gW G 4) (gW G 6) w = 0 := by unfold lS; rw [gW4, if_pos e1, sm_0]
      omega
    · rw [lS_eq (n4 := G 4) (n6 := G 6) (n4' := gW G 4) (n6' := gW G 6) (w := w) (by rw [gW4, if_neg e1]) (fun j _ => rfl)]; exact gn3 w (by omega)
  · have := gt1 k hk
    show G 7 k < G 0 1 + 1 ∧ G 8 k < G 0 1 + 1 ∧ G 7 k ≠ G 8 k ∧ 1 ≤ G 9 k ∧ G 9 k ≤ 10
    omega
theorem c_add11 {W : Nat} {f0 : Nat → Int32} (hW : W < 6) : ∀ (n i : Nat) (f : Nat → Int32), i ≤ 6 → 6 - i < n → (∀ v, v < i → f (W * 6 + v) = nI (if W = v then 10 else 0)) → (∀ q, q < W * 6 → f q = f0 q) → ∃ f', f_X7_add_11 N (nI W) n (nI i) f = some (nI 6, f') ∧ (∀ v, v < 6 → f' (W * 6 + v) = nI (if W = v then 10 else 0)) ∧ ∀ q, q < W * 6 → f' q = f0 q := by
  intro n
  induction n with
  | zero => intro i f h1 h2; omega
  | succ n ih =>
    intro i f h1 h2 h3 h4
    rw [f_X7_add_11.eq_2]
    by_cases h : i < 6
    · have step : ∀ x, x = nI (if W = i then 10 else 0) → ∃ f', f_X7_add_11 N (nI W) n (nI (i + 1)) (upd f (W * 6 + i) x) = some (nI 6, f') ∧ (∀ v, v < 6 → f' (W * 6 + v) = nI (if W = v then 10 else 0)) ∧ ∀ q, q < W * 6 → f' q = f0 q := by
        intro x hx
        refine ih (i + 1) _ (by omega) (by omega) (fun v hv => ?_) (fun q hq => ?_)
        · by_cases e1 : v = i
          · subst e1; rw [pk_us]; exact hx
          · rw [pk_un (by omega)]; exact h3 v (by omega)
        · rw [pk_un (by omega)]; exact h4 q hq
      have ee : (nI i = nI W) = (i = W) := z_eq (by omega) (by omega)
      rw [show (6 : Int32) = nI 6 from rfl, if_neg (by rw [z_le (by omega) (by omega)]; omega), z_mul, z_add]
      simp (disch := omega) only [z_gIx, z_cl, nI_1, ee]
      by_cases e1 : i = W
      · rw [if_pos e1]; exact step _ (by rw [if_pos e1.symm]; rfl)
      · rw [if_neg e1]; exact step _ (by rw [if_neg (fun q => e1 q.symm)]; rfl)
    · have : i = 6 := by omega
      subst this
      exact ⟨f, if_pos (by decide), h3, h4⟩
theorem c_add53 {W : Nat} {f0 : Nat → Int32} (hW : W < 6) : ∀ (n i : Nat) (f : Nat → Int32), i ≤ 9 → 9 - i < n → (∀ v, v < i → f (W * 9 + v) = nI (if v = 8 then 10 else 0)) → (∀ q, q < W * 9 → f q = f0 q) → ∃ f', f_X7_add_53 N (nI W) n (nI i) f = some (nI 9, f') ∧ (∀ v, v < 9 → f' (W * 9 + v) = nI (if v = 8 then 10 else 0)) ∧ ∀ q, q < W * 9 → f' q = f0 q := by
  intro n
  induction n with
  | zero => intro i f h1 h2; omega
  | succ n ih =>
    intro i f h1 h2 h3 h4
    rw [f_X7_add_53.eq_2]
    by_cases h : i < 9
    · have step : ∀ x, x = nI (if i = 8 then 10 else 0) → ∃ f', f_X7_add_53 N (nI W) n (nI (i + 1)) (upd f (W * 9 + i) x) = some (nI 9, f') ∧ (∀ v, v < 9 → f' (W * 9 + v) = nI (if v = 8 then 10 else 0)) ∧ ∀ q, q < W * 9 → f' q = f0 q := by
        intro x hx
        refine ih (i + 1) _ (by omega) (by omega) (fun v hv => ?_) (fun q hq => ?_)
        · by_cases e1 : v = i
          · subst e1; rw [pk_us]; exact hx
          · rw [pk_un (by omega)]; exact h3 v (by omega)
        · rw [pk_un (by omega)]; exact h4 q hq
      have ee : (nI i = 8) = (i = 8) := z_eq (b := 8) (by omega) (by omega)
      rw [show (9 : Int32) = nI 9 from rfl, if_neg (by rw [z_le (by omega) (by omega)]; omega), z_mul, z_add]
      simp (disch := omega) only [z_gIx, z_cl, nI_1, ee]
      by_cases e1 : i = 8
      · rw [if_pos e1]; exact step _ (by rw [if_pos e1]; rfl)
      · rw [if_neg e1]; exact step _ (by rw [if_neg e1]; rfl)
    · have : i = 9 := by omega
      subst this
      exact ⟨f, if_pos (by decide), h3, h4⟩
theorem DC_wind (hN : 3000 < N) (hG : WF G) (hn : G 0 1 < 6) (hc : DC G regions balloons letters loft start seed count turnCount risk distance comeback capacity pigeons weight priority turnFrom turnTo follow land aimCount aim) : ∃ f l a, f_X7_add N count follow land aimCount = some (nI (G 0 1 + 1), f, l, a) ∧ DC (gW G) regions balloons letters loft start seed (nI (G 0 1 + 1)) turnCount risk distance comeback capacity pigeons weight priority turnFrom turnTo f l a aim := by
  have hts := tS_no hG (Nat.le_refl _)
  have htp := fun v => tP_no (v := v) hG (Nat.le_refl (G 0 1))
  obtain ⟨⟨g0, g1, g2, g3, g4, g5, g6, g7⟩, gr, ⟨gna, gn1, gn2, gn3⟩, ⟨gt1, gt2, gt3⟩, gb, gl⟩ := hG
  obtain ⟨⟨⟨c1, c2, c3, c4, c5, c6, c7, c8⟩, cr, cb, cl, ct, cf, cla, cac, cai⟩, cx⟩ := hc
  obtain ⟨f, p1, p2, p3⟩ := c_add11 (N := N) (f0 := follow) hn N 0 follow (by omega) (by omega) (fun v hv => absurd hv (Nat.not_lt_zero v)) (fun _ _ => rfl)
  obtain ⟨l, q1, q2, q3⟩ := c_add53 (N := N) (f0 := land) hn N 0 land (by omega) (by omega) (fun v hv => absurd hv (Nat.not_lt_zero v)) (fun _ _ => rfl)
  rw [show nI 0 = 0 from rfl] at p1 q1
  have hx : ∀ w v, w < G 0 1 + 1 → v < 6 → f (w * 6 + v) = nI (tF (G 0 2) (G 7) (G 8) (G 9) w v) := by
    intro w v hw hv
    by_cases e1 : w = G 0 1
    · rw [e1, p2 v hv]
      unfold tF
      rw [hts, htp]
      rfl
    · rw [p3 _ (by omega)]; exact cx w v (by omega) hv
  refine ⟨f, l, upd aimCount (G 0 1) 0, ?_, ⟨⟨c1, c2, c3, c4, c5, c6, rfl, c8⟩, cr, cb, cl, ct, fun w v hw hv => hx w v hw (by have hv : v < G 0 1 + 1 := hv; omega), fun w r hw hr => ?_, fun w hw => ?_, fun w k hw hk => ?_⟩, hx⟩
  · unfold f_X7_add
    rw [c7, show (6 : Int32) = nI 6 from rfl, if_neg (by rw [z_le (by omega) (by omega)]; omega), p1, z_ob2, q1, z_ob2, z_gIx (by omega) (by omega), z_cl (by omega), nI_1]
  · have hw : w < G 0 1 + 1 := hw
    by_cases e1 : w = G 0 1
    · have e4 : gW G 4 w = 0 := by rw [gW4, if_pos e1]
      have e5 : lT (gW G 4) (gW G 5) (gW G 6) w r = if r = 8 then 10 else 0 := by unfold lT lS lP; rw [e4]; rfl
      rw [e5, e1]; exact q2 r hr
    · rw [q3 _ (by omega), lT_eq (n4 := G 4) (n5 := G 5) (n6 := G 6) (n4' := gW G 4) (n5' := gW G 5) (n6' := gW G 6) (w := w) (r := r) (by rw [gW4, if_neg e1]) (fun _ _ => rfl) (fun _ _ => rfl)]
      exact cla w r (by omega) hr
  · have hw : w < G 0 1 + 1 := hw
    rw [gW4]
    by_cases e1 : w = G 0 1
    · rw [if_pos e1, e1, pk_us]; rfl
    · rw [if_neg e1, pk_un e1]; exact cac w (by omega)
  · have hw : w < G 0 1 + 1 := hw
    rw [gW4] at hk
    by_cases e1 : w = G 0 1
    · rw [if_pos e1] at hk; omega
    · rw [if_neg e1] at hk; exact cai w k (by omega) hk
/-- a wind's next region -/
def gA (G : Nat → Nat → Nat) (W k v x : Nat) : Nat → Nat → Nat := gU (gU (gU G 5 (8 * W + k) v) 6 (8 * W + k) x) 4 W (k + 1)
theorem gA4 {W k v x : Nat} (w : Nat) : gA G W k v x 4 w = if w = W then k + 1 else G 4 w := rfl
theorem gA5 {W k v x : Nat} (w : Nat) : gA G W k v x 5 w = if w = 8 * W + k then v else G 5 w := rfl
theorem gA6 {W k v x : Nat} (w : Nat) : gA G W k v x 6 w = if w = 8 * W + k then x else G 6 w := rfl
theorem lS_up {W k v x : Nat} (hk : G 4 W = k) : lS (gA G W k v x 4) (gA G W k v x 6) W = lS (G 4) (G 6) W + x := by
  unfold lS
  rw [gA4, if_pos rfl, sm_s, hk, gA6, if_pos rfl]
  congr 1
  exact sm_congr (fun j hj => by rw [gA6, if_neg (by omega)])
theorem lP_up {W k v x : Nat} (hk : G 4 W = k) (r : Nat) : lP (gA G W k v x 4) (gA G W k v x 5) (gA G W k v x 6) W r = lP (G 4) (G 5) (G 6) W r + if v = r then x else 0 := by
  unfold lP
  rw [gA4, if_pos rfl, sm_s, hk, gA6, gA5, if_pos rfl, if_pos rfl]
  congr 1
  exact sm_congr (fun j hj => by
    have e1 : ¬ 8 * W + j = 8 * W + k := by omega
    simp only [gA6, gA5, if_neg e1])
theorem WF_aim {W k v x : Nat} (hG : WF G) (hW : W < G 0 1) (hk : G 4 W = k) (hk8 : k < 8) (hv : v < G 0 0) (hx : 1 ≤ x ∧ x ≤ 10 - lS (G 4) (G 6) W) (hd : ∀ j, j < k → G 5 (8 * W + j) ≠ v) : WF (gA G W k v x) := by
  obtain ⟨⟨g0, g1, g2, g3, g4, g5, g6, g7⟩, gr, ⟨gna, gn1, gn2, gn3⟩, ⟨gt1, gt2, gt3⟩, gb, gl⟩ := hG
  refine ⟨⟨g0, g1, g2, g3, g4, g5, g6, g7⟩, gr, ⟨fun w hw => ?_, fun w j hw hj => ?_, fun w j i hw hj hi => ?_, fun w hw => ?_⟩, ⟨gt1, gt2, gt3⟩, gb, gl⟩
  · rw [gA4]
    by_cases e1 : w = W
    · rw [if_pos e1]; omega
    · rw [if_neg e1]; exact gna w hw
  · rw [gA4] at hj
    rw [gA5, gA6]
    show (if 8 * w + j = 8 * W + k then v else G 5 (8 * w + j)) < G 0 0 ∧ _
    by_cases e1 : w = W
    · rw [if_pos e1] at hj
      by_cases e2 : j = k
      · rw [if_pos (by omega), if_pos (by omega)]; omega
      · rw [if_neg (by omega), if_neg (by omega)]; exact gn1 w j hw (by rw [e1, hk]; omega)
    · rw [if_neg e1] at hj
      have := gna w hw
      rw [if_neg (by omega), if_neg (by omega)]; exact gn1 w j hw hj
  · rw [gA4] at hj
    rw [gA5, gA5]
    by_cases e1 : w = W
    · rw [if_pos e1] at hj
      rw [if_neg (show ¬ 8 * w + i = 8 * W + k by omega)]
      by_cases e2 : j = k
      · rw [if_pos (by omega), e1]; exact fun q => hd i (by omega) q.symm
      · rw [if_neg (by omega)]; exact gn2 w j i hw (by rw [e1, hk]; omega) hi
    · rw [if_neg e1] at hj
      have := gna w hw
      rw [if_neg (by omega), if_neg (by omega)]; exact gn2 w j i hw hj hi
  · by_cases e1 : w = W
    · subst e1
      have := gn3 w hw
      rw [lS_up hk]; omega
    · have := gna w hw
      rw [lS_eq (n4 := G 4) (n6 := G 6) (n4' := gA G W k v x 4) (n6' := gA G W k v x 6) (w := w) (by rw [gA4, if_neg e1]) (fun j hj => by rw [gA6, if_neg (by omega)])]
      exact gn3 w hw
theorem DC_aim {W k v x : Nat} (hG : WF G) (hW : W < G 0 1) (hk : G 4 W = k) (hk8 : k < 8) (hv : v < 8) (hx : x ≤ 10 - lS (G 4) (G 6) W) (hc : DC G regions balloons letters loft start seed count turnCount risk distance comeback capacity pigeons weight priority turnFrom turnTo follow land aimCount aim) : DC (gA G W k v x) regions balloons letters loft start seed count turnCount risk distance comeback capacity pigeons weight priority turnFrom turnTo follow (upd (upd land (W * 9 + v) (nI (lP (G 4) (G 5) (G 6) W v + x))) (W * 9 + 8) (nI (10 - lS (G 4) (G 6) W - x))) (upd aimCount W (nI (k + 1))) (upd aim (W * 8 + k) (nI v)) := by
  obtain ⟨⟨g0, g1, g2, g3, g4, g5, g6, g7⟩, gr, ⟨gna, gn1, gn2, gn3⟩, ⟨gt1, gt2, gt3⟩, gb, gl⟩ := hG
  obtain ⟨⟨⟨c1, c2, c3, c4, c5, c6, c7, c8⟩, cr, cb, cl, ct, cf, cla, cac, cai⟩, cx⟩ := hc
  refine ⟨⟨⟨c1, c2, c3, c4, c5, c6, c7, c8⟩, cr, cb, cl, ct, cf, fun w r hw hr => ?_, fun w hw => ?_, fun w j hw hj => ?_⟩, cx⟩
  · by_cases e1 : w = W
    · subst e1
      by_cases e2 : r = 8
      · rw [e2, pk_us]
        unfold lT
        rw [if_pos rfl, lS_up hk]
        congr 1; omega
      · rw [pk_un (by omega)]
        by_cases e3 : r = v
        · rw [e3, pk_us]
          unfold lT
          rw [if_neg (by omega), lP_up hk, if_pos rfl]
        · rw [pk_un (by omega), cla w r hw hr]
          unfold lT
          rw [if_neg e2, if_neg e2, lP_up hk, if_neg (fun q => e3 q.symm)]
          rfl
    · have := gna w hw
      rw [pk_un (by omega), pk_un (by omega), lT_eq (n4 := G 4) (n5 := G 5) (n6 := G 6) (n4' := gA G W k v x 4) (n5' := gA G W k v x 5) (n6' := gA G W k v x 6) (w := w) (r := r) (by rw [gA4, if_neg e1]) (fun j hj => by rw [gA5, if_neg (by omega)]) (fun j hj => by rw [gA6, if_neg (by omega)])]
      exact cla w r hw hr
  · rw [gA4]
    by_cases e1 : w = W
    · rw [if_pos e1, e1, pk_us]
    · rw [if_neg e1, pk_un e1]; exact cac w hw
  · rw [gA4] at hj
    rw [gA5]
    by_cases e1 : w = W
    · rw [if_pos e1] at hj
      by_cases e2 : j = k
      · rw [if_pos (by omega), e1, e2, pk_us]
      · rw [if_neg (by omega), pk_un (by omega)]; exact cai w j hw (by rw [e1, hk]; omega)
    · rw [if_neg e1] at hj
      have := gna w hw
      rw [if_neg (by omega), pk_un (by omega)]; exact cai w j hw hj
theorem lP_0 {w r : Nat} (hG : WF G) (hw : w < G 0 1) : lP (G 4) (G 5) (G 6) w r = 0 ↔ ∀ j, j < G 4 w → G 5 (8 * w + j) ≠ r := by
  obtain ⟨⟨g0, g1, g2, g3, g4, g5, g6, g7⟩, gr, ⟨gna, gn1, gn2, gn3⟩, ⟨gt1, gt2, gt3⟩, gb, gl⟩ := hG
  constructor
  · intro h j hj hq
    have h1 := sm_one (f := fun k => if G 5 (8 * w + k) = r then G 6 (8 * w + k) else 0) hj
    have h2 : sm (G 4 w) (fun k => if G 5 (8 * w + k) = r then G 6 (8 * w + k) else 0) = 0 := h
    rw [h2] at h1
    simp only [if_pos hq] at h1
    have := (gn1 w j hw hj).2.1
    omega
  · intro h
    exact (sm_congr (fun k hk => if_neg (h k hk))).trans (sm_zero _)
theorem cnt_1 {a : Nat → Nat} {r : Nat} : ∀ k, (∀ i j, i < k → j < i → a i ≠ a j) → sm k (fun j => if a j = r then 1 else 0) ≤ 1
  | 0, _ => by rw [sm_0]; omega
  | k + 1, h => by
    rw [sm_s]
    by_cases e1 : a k = r
    · rw [if_pos e1]
      have : sm k (fun j => if a j = r then 1 else 0) = 0 := (sm_congr (fun j hj => if_neg (fun q => h k j (by omega) hj (e1.trans q.symm)))).trans (sm_zero _)
      omega
    · rw [if_neg e1]
      exact cnt_1 k (fun i j hi hj => h i j (by omega) hj)
/-- eight regions are all -/
theorem hole {a : Nat → Nat} {k v : Nat} (h1 : ∀ j, j < k → a j < 8) (h2 : ∀ i j, i < k → j < i → a i ≠ a j) (hv : v < 8) (h3 : ∀ j, j < k → a j ≠ v) : k < 8 := by
  have s1 : sm 8 (fun r => sm k (fun j => if a j = r then 1 else 0)) = k := by
    rw [sm_comm]
    have : ∀ j, j < k → sm 8 (fun r => if a j = r then 1 else 0) = 1 := by
      intro j hj
      have e := sm_delta (a j) (fun _ => 1) 8
      rw [if_pos (h1 j hj)] at e
      refine Eq.trans (sm_congr (fun r _ => ?_)) e
      by_cases e1 : a j = r
      · rw [if_pos e1, if_pos e1.symm]
      · rw [if_neg e1, if_neg (fun q => e1 q.symm)]
    rw [sm_congr this, sm_const]; omega
  have s2 : sm 8 (fun r => sm k (fun j => if a j = r then 1 else 0)) + sm 8 (fun r => if r = v then 1 else 0) ≤ sm 8 (fun _ => 1) := by
    rw [← sm_add]
    refine sm_le (fun r hr => ?_)
    by_cases e1 : r = v
    · have : sm k (fun j => if a j = r then 1 else 0) = 0 := (sm_congr (fun j hj => if_neg (fun q => h3 j hj (q.trans e1)))).trans (sm_zero _)
      rw [this, if_pos e1]; omega
    · rw [if_neg e1]
      have := cnt_1 (r := r) k h2
      omega
  have e := sm_delta v (fun _ => 1) 8
  rw [if_pos hv] at e
  rw [s1, e, sm_const] at s2
  omega
/-- the model's draft while a wind is read -/
def DW (G : Nat → Nat → Nat) (W : Nat) (mRegions mRisk mDistance mBack mWinds mNamed mNR mNW mTurns mTF mTT mTW mBalloons mRoom mPigeons mLetters mWeight mPriority : Nat → Int32) : Prop :=
  (mRegions 1 = nI (G 0 0) ∧ mWinds 1 = nI W ∧ mTurns 1 = nI (G 0 2) ∧ mBalloons 1 = nI (G 0 3) ∧ mLetters 1 = nI (G 0 4)) ∧
  (∀ k, k < G 0 0 → mRisk (8 + k) = nI (G 1 k) ∧ mDistance (8 + k) = nI (G 2 k) ∧ mBack (8 + k) = nI (G 3 k)) ∧
  (∀ b, b < G 0 3 → mRoom (10 + b) = nI (G 10 b) ∧ mPigeons (10 + b) = nI (G 11 b)) ∧
  (∀ k, k < G 0 4 → mWeight (24 + k) = nI (G 12 k) ∧ mPriority (24 + k) = nI (G 13 k)) ∧
  (∀ k, k < G 0 2 → mTF (30 + k) = nI (G 7 k) ∧ mTT (30 + k) = nI (G 8 k) ∧ mTW (30 + k) = nI (G 9 k)) ∧
  (∀ w, w < W → mNamed (6 + w) = nI (G 4 w)) ∧
  (∀ w k, w < G 0 1 → k < G 4 w → mNR (8 * (6 + w) + k) = nI (G 5 (8 * w + k)) ∧ mNW (8 * (6 + w) + k) = nI (G 6 (8 * w + k)))
theorem DW_wind (hm : DM G mRegions mRisk mDistance mBack mWinds mNamed mNR mNW mTurns mTF mTT mTW mBalloons mRoom mPigeons mLetters mWeight mPriority) : DW (gW G) (G 0 1) mRegions mRisk mDistance mBack mWinds mNamed mNR mNW mTurns mTF mTT mTW mBalloons mRoom mPigeons mLetters mWeight mPriority := by
  obtain ⟨⟨m0, m1, m2, m3, m4⟩, mr, mb, ml, mt, mna, mnr⟩ := hm
  refine ⟨⟨m0, m1, m2, m3, m4⟩, mr, mb, ml, mt, fun w hw => ?_, fun w k hw hk => ?_⟩
  · rw [gW4, if_neg (by omega)]; exact mna w hw
  · have hw : w < G 0 1 + 1 := hw
    rw [gW4] at hk
    by_cases e1 : w = G 0 1
    · rw [if_pos e1] at hk; omega
    · rw [if_neg e1] at hk; exact mnr w k (by omega) hk
theorem DW_aim {W k v x : Nat} (hG : WF G) (hk : G 4 W = k) (hk8 : k < 8) (hW : G 0 1 = W + 1) (hm : DW G W mRegions mRisk mDistance mBack mWinds mNamed mNR mNW mTurns mTF mTT mTW mBalloons mRoom mPigeons mLetters mWeight mPriority) : DW (gA G W k v x) W mRegions mRisk mDistance mBack mWinds mNamed (upd mNR (8 * (6 + W) + k) (nI v)) (upd mNW (8 * (6 + W) + k) (nI x)) mTurns mTF mTT mTW mBalloons mRoom mPigeons mLetters mWeight mPriority := by
  obtain ⟨⟨g0, g1, g2, g3, g4, g5, g6, g7⟩, gr, ⟨gna, gn1, gn2, gn3⟩, ⟨gt1, gt2, gt3⟩, gb, gl⟩ := hG
  obtain ⟨⟨m0, m1, m2, m3, m4⟩, mr, mb, ml, mt, mna, mnr⟩ := hm
  refine ⟨⟨m0, m1, m2, m3, m4⟩, mr, mb, ml, mt, fun w hw => ?_, fun w j hw hj => ?_⟩
  · rw [gA4, if_neg (by omega)]; exact mna w hw
  · rw [gA4] at hj
    rw [gA5, gA6]
    by_cases e1 : w = W
    · rw [if_pos e1] at hj
      by_cases e2 : j = k
      · rw [if_pos (by omega), if_pos (by omega), e1, e2]; exact ⟨pk_us, pk_us⟩
      · rw [if_neg (by omega), if_neg (by omega), pk_un (by omega), pk_un (by omega)]; exact mnr w j hw (by rw [e1, hk]; omega)
    · rw [if_neg e1] at hj
      have := gna w hw
      rw [if_neg (by omega), if_neg (by omega), pk_un (by omega), pk_un (by omega)]; exact mnr w j hw hj
theorem DW_end {W k : Nat} (hk : G 4 W = k) (hW : G 0 1 = W + 1) (hm : DW G W mRegions mRisk mDistance mBack mWinds mNamed mNR mNW mTurns mTF mTT mTW mBalloons mRoom mPigeons mLetters mWeight mPriority) : DM G mRegions mRisk mDistance mBack (upd mWinds 1 (nI (W + 1))) (upd mNamed (6 + W) (nI k)) mNR mNW mTurns mTF mTT mTW mBalloons mRoom mPigeons mLetters mWeight mPriority := by
  obtain ⟨⟨m0, m1, m2, m3, m4⟩, mr, mb, ml, mt, mna, mnr⟩ := hm
  refine ⟨⟨m0, by rw [pk_us, hW], m2, m3, m4⟩, mr, mb, ml, mt, fun w hw => ?_, mnr⟩
  by_cases e1 : w = W
  · rw [e1, pk_us, hk]
  · rw [pk_un (by omega)]; exact mna w (by omega)
end
