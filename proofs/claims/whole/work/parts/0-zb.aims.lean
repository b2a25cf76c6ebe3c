variable {G : Nat → Nat → Nat} {regions balloons letters loft start seed count turnCount : Int32} {risk distance comeback capacity pigeons weight priority turnFrom turnTo follow land aimCount aim : Nat → Int32} {mLoft mStart mSeed : Int32} {mRegions mRisk mDistance mBack mWinds mNamed mNR mNW mTurns mTF mTT mTW mBalloons mRoom mPigeons mLetters mWeight mPriority : Nat → Int32}
variable {G0 : Nat → Nat → Nat}
section
variable {N e : Nat} {c m : Nat → Int32} {S Q K V : Nat → Nat} {st nx tk vv : Int32} {p : Nat}
theorem x_take {q : Nat} (h : LX N e c m S Q K V) (hq : q ≤ e) (ht : TM S Q K V q st nx tk vv) (hk : K q = 2) (number ea lo hi : Int32) :
    (¬ nI (V q) < lo → nI (V q) ≤ hi → ∃ st' nx' tk' vv', TM S Q K V (Q q) st' nx' tk' vv' ∧ f_X9_takes N (nI e) st nx tk vv 0 ea number m lo hi = some (1, st', nx', tk', vv', 0, ea, nI (V q))) ∧
    (¬ nI (V q) ≤ hi → f_X9_takes N (nI e) st nx tk vv 0 ea number m lo hi = some (0, st, nx, tk, vv, 3, nI (S q), number)) := by
  obtain ⟨rfl, rfl, rfl, hv⟩ := ht
  have hv2 := hv hk
  subst hv2
  unfold f_X9_takes f_X9_within f_X9_fails
  rw [hk, if_pos (show nI 2 = 2 from rfl), if_pos rfl]
  constructor
  · intro h1 h2
    obtain ⟨_, _, ⟨w, w1, w2⟩, _⟩ := h (Q q) (h q hq).1.2.2.1
    rw [if_neg h1, if_neg (Int32.not_lt.mpr h2), z_ob1, if_neg (by decide), w1, z_ob4]
    exact ⟨_, _, _, w, ⟨rfl, rfl, rfl, w2⟩, rfl⟩
  · intro h2
    by_cases h1 : nI (V q) < lo
    · rw [if_pos h1]; rfl
    · rw [if_neg h1, if_pos (Int32.not_le.mp h2)]; rfl
theorem l_aims {W : Nat} (he : e ≤ 900) (hL : LX N e c m S Q K V) (hG0 : WF G0) (hW : W < 6) (code ea : Int32) : ∀ (n k q ss : Nat) (G : Nat → Nat → Nat) (land aimCount aim mNR mNW : Nat → Int32) (sc0 kc0 vc0 st nx tk vv number : Int32), WF G → G 0 1 = W + 1 → G 4 W = k → 9 - k < n → DC G regions balloons letters loft start seed (nI (W + 1)) turnCount risk distance comeback capacity pigeons weight priority turnFrom turnTo follow land aimCount aim → DW G W mRegions mRisk mDistance mBack mWinds mNamed mNR mNW mTurns mTF mTT mTW mBalloons mRoom mPigeons mLetters mWeight mPriority → RGm G0 mLoft mStart mSeed mRegions mRisk mDistance mBack mWinds mNamed mNR mNW mTurns mTF mTT mTW mBalloons mRoom mPigeons mLetters mWeight mPriority → q ≤ e → TM S Q K V q st nx tk vv → ss < 256 → (∀ r, ss.testBit r = true ↔ ∃ j, j < k ∧ G 5 (8 * W + j) = r) →
    (∃ ka sc pc kc vc nu nst nnx ntk nvv l' ac' am' y1 y2 y3 y4, ka ≠ 0 ∧ f_X4_readWind_29 N (nI (G 0 0)) (nI W) (nI e) c (nI (W + 1)) follow n (nI k) sc0 (nI q) kc0 vc0 code land aimCount aim = some (0, nI (W + 1), sc, pc, kc, vc, ka, follow, l', ac', am') ∧ f_X9_windLine_42 N (nI e) mWinds m mRegions mNamed (nI (6 + W)) n (nI ss) (nI (lS (G 4) (G 6) W)) (nI k) st nx tk vv 0 ea number mNR mNW = some (0, nst, nnx, ntk, nvv, ka, sc, nu, y1, y2, y3, y4) ∧ RGm G0 mLoft mStart mSeed mRegions mRisk mDistance mBack y1 y4 y2 y3 mTurns mTF mTT mTW mBalloons mRoom mPigeons mLetters mWeight mPriority) ∨
    (∃ sc pc kc vc nu nnx kt nvv l' ac' am' y1 y2 y3 y4, kt ≠ 3 ∧ kt ≤ 4 ∧ f_X4_readWind_29 N (nI (G 0 0)) (nI W) (nI e) c (nI (W + 1)) follow n (nI k) sc0 (nI q) kc0 vc0 code land aimCount aim = some (0, nI (W + 1), sc, pc, kc, vc, 1, follow, l', ac', am') ∧ f_X9_windLine_42 N (nI e) mWinds m mRegions mNamed (nI (6 + W)) n (nI ss) (nI (lS (G 4) (G 6) W)) (nI k) st nx tk vv 0 ea number mNR mNW = some (1, sc, nnx, nI kt, nvv, 0, ea, nu, y1, y2, y3, y4) ∧ RGm G0 mLoft mStart mSeed mRegions mRisk mDistance mBack y1 y4 y2 y3 mTurns mTF mTT mTW mBalloons mRoom mPigeons mLetters mWeight mPriority) ∨
    (∃ q' vc nu nst nnx ntk nvv l' ac' am' y1 y2 y3 y4, q ≤ q' ∧ q' ≤ e ∧ K q' = 3 ∧ f_X4_readWind_29 N (nI (G 0 0)) (nI W) (nI e) c (nI (W + 1)) follow n (nI k) sc0 (nI q) kc0 vc0 code land aimCount aim = some (1, nI (W + 1), nI (S q'), nI (Q q'), nI 3, vc, code, follow, l', ac', am') ∧ f_X9_windLine_42 N (nI e) mWinds m mRegions mNamed (nI (6 + W)) n (nI ss) (nI (lS (G 4) (G 6) W)) (nI k) st nx tk vv 0 ea number mNR mNW = some (1, nst, nnx, ntk, nvv, 0, ea, nu, y1, y2, y3, y4) ∧ TM S Q K V q' nst nnx ntk nvv ∧ RGm G0 mLoft mStart mSeed mRegions mRisk mDistance mBack y1 y4 y2 y3 mTurns mTF mTT mTW mBalloons mRoom mPigeons mLetters mWeight mPriority ∧ ∃ G', WF G' ∧ DC G' regions balloons letters loft start seed (nI (W + 1)) turnCount risk distance comeback capacity pigeons weight priority turnFrom turnTo follow l' ac' am' ∧ DM G' mRegions mRisk mDistance mBack y1 y4 y2 y3 mTurns mTF mTT mTW mBalloons mRoom mPigeons mLetters mWeight mPriority ∧ G' 0 5 = G 0 5 ∧ G' 0 6 = G 0 6 ∧ G' 0 7 = G 0 7 ∧ G' 0 1 = W + 1) := by
  intro n
  induction n with
  | zero => intro k q ss G land aimCount aim mNR mNW sc0 kc0 vc0 st nx tk vv number hG h01 hk hn; omega
  | succ n ih =>
    intro k q ss G land aimCount aim mNR mNW sc0 kc0 vc0 st nx tk vv number hG h01 hk hn hc hm h0 hq ht hss hset
    obtain ⟨⟨g0, g1, g2, g3, g4, g5, g6, g7⟩, gr, ⟨gna, gn1, gn2, gn3⟩, ⟨gt1, gt2, gt3⟩, gb, gl⟩ := id hG
    obtain ⟨⟨⟨c1, c2, c3, c4, c5, c6, c7, c8⟩, cr, cb, cl, ct, cf, cla, cac, cai⟩, cx⟩ := id hc
    obtain ⟨⟨m0, m1, m2, m3, m4⟩, mr, mb, ml, mt, mna, mnr⟩ := id hm
    obtain ⟨⟨f1, f2, f3, f4, f5, f6⟩, fc, fm, fw⟩ := hL q hq
    obtain ⟨v', t1, t2⟩ := fc kc0 vc0
    obtain ⟨hs1, hs2, hs3, hs4⟩ := id ht
    have k8 : k ≤ 8 := by have := gna W (by omega); omega
    have lS10 := gn3 W (by omega)
    have e2 : (nI (K q) = 2) = (K q = 2) := z_eq (b := 2) (by omega) (by omega)
    have e3 : (nI (K q) = 3) = (K q = 3) := z_eq (b := 3) (by omega) (by omega)
    rw [f_X4_readWind_29.eq_2, f_X9_windLine_42.eq_2]
    rw [if_neg (show ¬ (8 : Int32) < nI k by rw [show (8 : Int32) = nI 8 from rfl, z_lt (by omega) (by omega)]; omega), t1, z_ob4]
    simp only [hs3]
    by_cases h3 : K q = 3
    · right; right
      rw [if_pos (show nI (K q) = 3 by rw [e3]; exact h3), if_neg (show ¬ nI (K q) = 2 by rw [e2]; omega), z_gIx (by omega) (by omega), z_gI1, z_gI1, z_c1, m1, nI_1, z_cl (by omega), h3]
      exact ⟨q, _, _, _, _, _, _, _, _, _, _, _, _, _, Nat.le_refl _, hq, h3, rfl, rfl, ⟨hs1, hs2, by rw [h3], hs4⟩, (RGm_lo hG0 h0 (fun _ _ => rfl) (fun _ _ => rfl) (fun _ _ => rfl) (fun _ _ => rfl) (fun k hk => pk_un (by omega)) (fun k hk => pk_un (by omega)) (fun _ _ => rfl) (fun _ _ => rfl) (fun _ _ => rfl) (fun _ _ => rfl) (fun _ _ => rfl) (fun _ _ => rfl) (fun _ _ => rfl) (fun _ _ => rfl) (fun _ _ => rfl) (fun _ _ => rfl) (fun _ _ => rfl) (fun _ _ => rfl)), G, hG, hc, DW_end hk h01 hm, rfl, rfl, rfl, h01⟩
    · rw [if_neg (show ¬ nI (K q) = 3 by rw [e3]; exact h3)]
      unfold f_X4_readAim f_X4_isNumber f_X4_fail
      by_cases h2 : K q = 2
      · have hv := t2 h2
        have hu := hs4 h2
        have v9 := f6 h2
        subst hv hu
        have hk2 : nI (K q) = 2 := by rw [e2]; exact h2
        rw [if_pos hk2, if_pos hk2, z_gI1, z_c1, m0, if_neg (show ¬ nI (V q) < 0 from nI_pos (by omega))]
        obtain ⟨x1, x2⟩ := x_take hL hq ht h2 number ea 0 (nI (G 0 0) - 1)
        simp only [hs3] at x1 x2
        by_cases hr : nI (V q) ≤ nI (G 0 0) - 1
        · have hv1 := b_lt (by omega) (by omega) hr
          have elt : ∀ r, r < 9 → f_X7_landTenths N (nI (W + 1)) land (nI W) (nI r) = some (nI (lT (G 4) (G 5) (G 6) W r)) := by
            intro r hr
            unfold f_X7_landTenths
            rw [if_neg (nI_pos (by omega)), if_neg (by rw [z_le (by omega) (by omega)]; omega), if_neg (nI_pos (by omega)), show (9 : Int32) = nI 9 from rfl, if_pos (by rw [z_lt (by omega) (by omega)]; omega), z_mul, z_add, z_gIx (by omega) (by omega), z_cl (by omega), cla W r (by omega) hr]
          have elv : lT (G 4) (G 5) (G 6) W (V q) = lP (G 4) (G 5) (G 6) W (V q) := if_neg (by omega)
          have el8 : lT (G 4) (G 5) (G 6) W 8 = 10 - lS (G 4) (G 6) W := if_pos rfl
          have lpl := lP_le (na := G 4) (nr := G 5) (nw := G 6) W (V q)
          rw [if_pos hr, z_ob2, if_neg (by decide), elt _ (by omega), z_ob1, show (8 : Int32) = nI 8 from rfl, elt 8 (by omega), z_ob1, elv, el8, if_neg (show ¬ nI (G 0 0) ≤ nI (V q) by rw [z_le (by omega) (by omega)]; omega)]
          have e0p : (nI (lP (G 4) (G 5) (G 6) W (V q)) ≤ 0) = (lP (G 4) (G 5) (G 6) W (V q) ≤ 0) := z_le (b := 0) (by omega) (by omega)
          rw [z_has9 (by omega) (by omega), z_ob1]
          by_cases hp0 : lP (G 4) (G 5) (G 6) W (V q) ≤ 0
          · have hno := (lP_0 hG (by omega)).1 (Nat.le_zero.mp hp0)
            rw [hk] at hno
            have hbit : ¬ ss.testBit (V q) = true := fun qq => by
              obtain ⟨j, j1, j2⟩ := (hset _).1 qq
              exact hno j j1 j2
            have k7 : k < 8 := hole (a := fun j => G 5 (8 * W + j)) (v := V q) (fun j hj => by have := (gn1 W j (by omega) (by omega)).1; omega) (fun i j hi hj => gn2 W i j (by omega) (by omega) hj) (by omega) hno
            obtain ⟨st1, nx1, tk1, vv1, tm1, mr1⟩ := x1 (nI_pos (by omega)) hr
            rw [if_pos (show nI (lP (G 4) (G 5) (G 6) W (V q)) ≤ 0 by rw [e0p]; exact hp0), if_neg hbit, if_pos rfl, z_gI1, mr1, z_ob8, if_neg (by decide), z_mul, z_add, z_gIx (i := 8 * (6 + W) + k) (by omega) (by omega), show (10 : Int32) = nI 10 from rfl, z_sub (by omega), z_cl (n := 8 * (6 + W) + k) (by omega)]
            obtain ⟨⟨f1a, f2a, f3a, f4a, f5a, f6a⟩, _⟩ := hL (Q q) f3
            rcases x_num hL he f3 tm1 (nI (K q)) (nI (V q)) code (nI (V q)) ea 1 (nI (10 - lS (G 4) (G 6) W)) with ⟨k3, lo3, hi3, cr3, s3, n3, d3, u3, t4, mr3⟩ | ⟨ka, v', hka, _, cr, mr⟩
            rotate_left
            · left
              rw [cr, z_ob6, if_pos rfl, mr, z_ob8, if_pos rfl, z_ob9, if_pos rfl]
              exact ⟨ka, _, _, _, _, _, _, _, _, _, _, _, _, _, _, _, _, hka, rfl, rfl, (RGm_lo hG0 h0 (fun _ _ => rfl) (fun _ _ => rfl) (fun _ _ => rfl) (fun _ _ => rfl) (fun _ _ => rfl) (fun _ _ => rfl) (fun k hk => pk_un (by omega)) (fun _ _ => rfl) (fun _ _ => rfl) (fun _ _ => rfl) (fun _ _ => rfl) (fun _ _ => rfl) (fun _ _ => rfl) (fun _ _ => rfl) (fun _ _ => rfl) (fun _ _ => rfl) (fun _ _ => rfl) (fun _ _ => rfl))⟩
            have v3 := f6a k3
            have hx1 : V (Q q) ≤ 10 - lS (G 4) (G 6) W := b_le (by omega) (by omega) hi3
            have hx2 : 1 ≤ V (Q q) := b_ge (k := 1) (by omega) (by omega) lo3
            have hno0 : ¬ (nI W < 0 ∨ nI (W + 1) ≤ nI W) := by
              intro q
              rcases q with q | q
              · exact nI_pos (by omega) q
              · rw [z_le (by omega) (by omega)] at q; omega
            have eadd : f_X7_addAim N (nI (W + 1)) aimCount aim land (nI W) (nI (V q)) (nI (V (Q q))) = some (upd aimCount W (nI (k + 1)), upd aim (W * 8 + k) (nI (V q)), upd (upd land (W * 9 + V q) (nI (lP (G 4) (G 5) (G 6) W (V q) + V (Q q)))) (W * 9 + 8) (nI (10 - lS (G 4) (G 6) W - V (Q q)))) := by
              unfold f_X7_addAim
              rw [z_has7, z_ob1, if_neg hno0, if_neg (by decide), if_neg (nI_pos (by omega)), show (8 : Int32) = nI 8 from rfl, if_pos (by rw [z_lt (by omega) (by omega)]; omega), z_gIx (by omega) (by omega), z_cl (n := W) (by omega), cac W (by omega), hk, if_neg (nI_pos (by omega)), if_neg (by rw [z_le (by omega) (by omega)]; omega), show (9 : Int32) = nI 9 from rfl]
              simp only [z_mul, z_add]
              simp (disch := omega) only [z_gIx, z_cl, nI_1]
              rw [cla W (V q) (by omega) (by omega), pk_un (show W * 9 + 8 ≠ W * 9 + V q by omega), cla W 8 (by omega) (by omega), elv, el8, z_add, z_sub hx1]
            rw [cr3, z_ob6, if_neg (by decide), eadd, z_ob3, z_ob9, if_neg (by decide), mr3, z_ob8, if_neg (by decide), z_gIx (i := 8 * (6 + W) + k) (by omega) (by omega), z_add, nI_1, z_shl1 (by omega), z_or]
            have h24 : 2 ^ V q ≤ 2 ^ 7 := Nat.pow_le_pow_right (by omega) (by omega)
            have hor : ss ||| 2 ^ V q < 2 ^ 8 := Nat.or_lt_two_pow (by omega) (by omega)
            have hih := ih (k + 1) (Q (Q q)) (ss ||| 2 ^ V q) (gA G W k (V q) (V (Q q))) (upd (upd land (W * 9 + V q) (nI (lP (G 4) (G 5) (G 6) W (V q) + V (Q q)))) (W * 9 + 8) (nI (10 - lS (G 4) (G 6) W - V (Q q)))) (upd aimCount W (nI (k + 1))) (upd aim (W * 8 + k) (nI (V q))) (upd mNR (8 * (6 + W) + k) (nI (V q))) (upd mNW (8 * (6 + W) + k) (nI (V (Q q)))) (nI (S (Q q))) 2 (nI (V (Q q))) s3 n3 d3 u3 (nI (V (Q q))) (WF_aim hG (by omega) hk k7 hv1 ⟨hx2, hx1⟩ hno) h01 (by rw [gA4, if_pos rfl]) (by omega) (DC_aim hG (by omega) hk k7 (by omega) hx1 hc) (DW_aim hG hk k7 h01 hm) (RGm_lo hG0 h0 (fun _ _ => rfl) (fun _ _ => rfl) (fun _ _ => rfl) (fun _ _ => rfl) (fun _ _ => rfl) (fun _ _ => rfl) (fun k hk => pk_un (by omega)) (fun k hk => pk_un (by omega)) (fun _ _ => rfl) (fun _ _ => rfl) (fun _ _ => rfl) (fun _ _ => rfl) (fun _ _ => rfl) (fun _ _ => rfl) (fun _ _ => rfl) (fun _ _ => rfl) (fun _ _ => rfl) (fun _ _ => rfl)) f3a t4 hor (fun r => by
              rw [Nat.testBit_or, Nat.testBit_two_pow, Bool.or_eq_true, hset, decide_eq_true_eq]
              constructor
              · rintro (⟨j, j1, j2⟩ | h)
                · exact ⟨j, by omega, by rw [gA5, if_neg (by omega)]; exact j2⟩
                · exact ⟨k, by omega, by rw [gA5, if_pos rfl]; exact h⟩
              · rintro ⟨j, j1, j2⟩
                rw [gA5] at j2
                by_cases e1 : j = k
                · rw [if_pos (by omega)] at j2; exact Or.inr j2
                · rw [if_neg (by omega)] at j2; exact Or.inl ⟨j, by omega, j2⟩)
            rw [lS_up hk, show gA G W k (V q) (V (Q q)) 0 0 = G 0 0 from rfl] at hih
            rcases hih with ⟨ka, sc, pc, kc, vc, nu, nst, nnx, ntk, nvv, l', ac', am', y1, y2, y3, y4, r1, r2, r3, r4⟩ | ⟨sc, pc, kc, vc, nu, nnx, kt, nvv, l', ac', am', y1, y2, y3, y4, r1, r2, r3, r4, r5⟩ | ⟨q', vc, nu, nst, nnx, ntk, nvv, l', ac', am', y1, y2, y3, y4, r1, r2, r3, r4, r5, r6, r7, r8⟩
            · left
              exact ⟨ka, sc, pc, kc, vc, nu, nst, nnx, ntk, nvv, l', ac', am', y1, y2, y3, y4, r1, r2, r3, r4⟩
            · right; left
              exact ⟨sc, pc, kc, vc, nu, nnx, kt, nvv, l', ac', am', y1, y2, y3, y4, r1, r2, r3, r4, r5⟩
            · right; right
              exact ⟨q', vc, nu, nst, nnx, ntk, nvv, l', ac', am', y1, y2, y3, y4, by omega, r2, r3, r4, r5, r6, r7, r8⟩
          · have hbit : ss.testBit (V q) = true := (hset _).2 (Classical.byContradiction (fun hno => hp0 (Nat.le_zero.mpr ((lP_0 hG (by omega)).2 (fun j hj hq => hno ⟨j, by omega, hq⟩)))))
            left
            unfold f_X9_fails
            rw [if_neg (show ¬ nI (lP (G 4) (G 5) (G 6) W (V q)) ≤ 0 by rw [e0p]; exact hp0), if_pos hbit, if_neg (show ¬ (1 : Int32) = 0 by decide), z_ob2, z_ob9, if_pos rfl, if_pos rfl, z_ob3, hs1]
            exact ⟨2, _, _, _, _, _, _, _, _, _, _, _, _, _, _, _, _, by decide, rfl, rfl, h0⟩
        · have hv1 := b_nlt (by omega) (by omega) hr
          left
          rw [if_neg hr, z_ob2, z_ob2, if_pos rfl, z_ob9, if_pos rfl, if_pos (show nI (G 0 0) ≤ nI (V q) by rw [z_le (by omega) (by omega)]; exact hv1), z_gI1, x2 hr, z_ob8, if_pos rfl]
          exact ⟨3, _, _, _, _, _, _, _, _, _, _, _, _, _, _, _, _, by decide, rfl, rfl, h0⟩
      · right; left
        have hk2 : ¬ nI (K q) = 2 := by rw [e2]; exact h2
        rw [if_neg hk2, if_neg hk2, z_ob2, z_ob2, if_pos rfl, z_ob9, if_pos rfl, z_gIx (by omega) (by omega), z_gI1, z_gI1, z_c1, m1, nI_1, z_cl (by omega), hs1]
        exact ⟨_, _, _, _, _, _, K q, _, _, _, _, _, _, _, _, h3, f4, rfl, rfl, (RGm_lo hG0 h0 (fun _ _ => rfl) (fun _ _ => rfl) (fun _ _ => rfl) (fun _ _ => rfl) (fun k hk => pk_un (by omega)) (fun k hk => pk_un (by omega)) (fun _ _ => rfl) (fun _ _ => rfl) (fun _ _ => rfl) (fun _ _ => rfl) (fun _ _ => rfl) (fun _ _ => rfl) (fun _ _ => rfl) (fun _ _ => rfl) (fun _ _ => rfl) (fun _ _ => rfl) (fun _ _ => rfl) (fun _ _ => rfl))⟩
theorem l_wind (hN : 3000 < N) (he : e ≤ 900) (hL : LX N e c m S Q K V) (hG0 : WF G0) (hG : WF G) (hc : DC G regions balloons letters loft start seed count turnCount risk distance comeback capacity pigeons weight priority turnFrom turnTo follow land aimCount aim) (hm : DM G mRegions mRisk mDistance mBack mWinds mNamed mNR mNW mTurns mTF mTT mTW mBalloons mRoom mPigeons mLetters mWeight mPriority) (h0 : RGm G0 mLoft mStart mSeed mRegions mRisk mDistance mBack mWinds mNamed mNR mNW mTurns mTF mTT mTW mBalloons mRoom mPigeons mLetters mWeight mPriority) (hp : p ≤ e) (ht : TM S Q K V p st nx tk vv) (kind value code number ea : Int32) :
    (∃ ka sc pc kc vc nu nst nnx ntk nvv x1 x2 x3 x4 x5 y1 y2 y3 y4, ka ≠ 0 ∧ f_X4_readWind N regions count (nI (S p)) (nI e) (nI (Q p)) kind value code follow land aimCount c aim = some (0, x1, sc, pc, kc, vc, ka, x2, x3, x4, x5) ∧ f_X9_windLine N (nI e) st nx tk vv 0 ea number mWinds m mRegions mNR mNW mNamed = some (0, nst, nnx, ntk, nvv, ka, sc, nu, y1, y2, y3, y4) ∧ RGm G0 mLoft mStart mSeed mRegions mRisk mDistance mBack y1 y4 y2 y3 mTurns mTF mTT mTW mBalloons mRoom mPigeons mLetters mWeight mPriority) ∨
    (∃ sc pc kc vc nu nnx kt nvv x1 x2 x3 x4 x5 y1 y2 y3 y4, kt ≠ 3 ∧ kt ≤ 4 ∧ f_X4_readWind N regions count (nI (S p)) (nI e) (nI (Q p)) kind value code follow land aimCount c aim = some (0, x1, sc, pc, kc, vc, 1, x2, x3, x4, x5) ∧ f_X9_windLine N (nI e) st nx tk vv 0 ea number mWinds m mRegions mNR mNW mNamed = some (1, sc, nnx, nI kt, nvv, 0, ea, nu, y1, y2, y3, y4) ∧ RGm G0 mLoft mStart mSeed mRegions mRisk mDistance mBack y1 y4 y2 y3 mTurns mTF mTT mTW mBalloons mRoom mPigeons mLetters mWeight mPriority) ∨
    (∃ q' vc nu nst nnx ntk nvv x1 x2 x3 x4 x5 y1 y2 y3 y4, p ≤ q' ∧ q' ≤ e ∧ K q' = 3 ∧ f_X4_readWind N regions count (nI (S p)) (nI e) (nI (Q p)) kind value code follow land aimCount c aim = some (1, x1, nI (S q'), nI (Q q'), nI 3, vc, code, x2, x3, x4, x5) ∧ f_X9_windLine N (nI e) st nx tk vv 0 ea number mWinds m mRegions mNR mNW mNamed = some (1, nst, nnx, ntk, nvv, 0, ea, nu, y1, y2, y3, y4) ∧ TM S Q K V q' nst nnx ntk nvv ∧ RGm G0 mLoft mStart mSeed mRegions mRisk mDistance mBack y1 y4 y2 y3 mTurns mTF mTT mTW mBalloons mRoom mPigeons mLetters mWeight mPriority ∧ ∃ G', WF G' ∧ DC G' regions balloons letters loft start seed x1 turnCount risk distance comeback capacity pigeons weight priority turnFrom turnTo x2 x3 x4 x5 ∧ DM G' mRegions mRisk mDistance mBack y1 y4 y2 y3 mTurns mTF mTT mTW mBalloons mRoom mPigeons mLetters mWeight mPriority ∧ G' 0 5 = G 0 5 ∧ G' 0 6 = G 0 6 ∧ G' 0 7 = G 0 7 ∧ G 0 1 ≤ G' 0 1) := by
  obtain ⟨⟨⟨c1, c2, c3, c4, c5, c6, c7, c8⟩, _⟩, _⟩ := id hc
  obtain ⟨⟨m0, m1, m2, m3, m4⟩, _⟩ := id hm
  obtain ⟨⟨g0, g1, g2, g3, g4, g5, g6, g7⟩, _⟩ := id hG
  obtain ⟨⟨f1, f2, f3, f4, f5, f6⟩, _⟩ := hL p hp
  have ec : ((count : Int32) < 6) = (G 0 1 < 6) := by rw [c7]; exact z_lt (b := 6) (by omega) (by omega)
  unfold f_X4_readWind f_X9_windLine
  have ec2 : ((6 : Int32) ≤ nI (G 0 1)) = (6 ≤ G 0 1) := z_le (a := 6) (by omega) (by omega)
  rw [z_gI1, z_gI1, z_c1, m1, show (6 : Int32) + nI (G 0 1) = nI (6 + G 0 1) from z_add 6 _]
  by_cases hn : G 0 1 < 6
  · obtain ⟨f, l, a, d1, d2⟩ := DC_wind (N := N) hN hG hn hc
    rw [if_pos (show count < 6 by rw [ec]; exact hn), if_neg (show ¬ (6 : Int32) ≤ nI (G 0 1) by rw [ec2]; omega), d1, z_ob4]
    unfold f_X9_windLine_j27
    obtain ⟨w0, o1, t1⟩ := x_open hL hp ht ea
    rw [o1, z_ob7, if_neg (by decide), c1]
    have hS : lS (gW G 4) (gW G 6) (G 0 1) = 0 := by unfold lS; rw [gW4, if_pos rfl, sm_0]
    have h := l_aims (N := N) (W := G 0 1) (G0 := G0) he hL hG0 hn code ea N 0 (Q p) 0 (gW G) l a aim mNR mNW (nI (S p)) kind value _ _ _ w0 number (WF_wind hG hn) rfl (by rw [gW4, if_pos rfl]) (by omega) d2 (DW_wind hm) h0 f3 t1 (by omega) (fun r => by
      rw [Nat.zero_testBit]
      exact ⟨fun q => absurd q (by decide), fun h => by obtain ⟨j, j1, _⟩ := h; omega⟩)
    rw [hS, show nI 0 = 0 from rfl, show gW G 0 0 = G 0 0 from rfl] at h
    rw [c7]
    rw [c1] at h
    rcases h with ⟨ka, sc, pc, kc, vc, nu, nst, nnx, ntk, nvv, l', ac', am', y1, y2, y3, y4, r1, r2, r3, r4⟩ | ⟨sc, pc, kc, vc, nu, nnx, kt, nvv, l', ac', am', y1, y2, y3, y4, r1, r2, r3, r4, r5⟩ | ⟨q', vc, nu, nst, nnx, ntk, nvv, l', ac', am', y1, y2, y3, y4, r1, r2, r3, r4, r5, r6, r7, G', r8, r9, r10, r11, r12, r13, r14⟩
    · left
      exact ⟨ka, sc, pc, kc, vc, nu, nst, nnx, ntk, nvv, _, _, l', ac', am', y1, y2, y3, y4, r1, r2, r3, r4⟩
    · right; left
      exact ⟨sc, pc, kc, vc, nu, nnx, kt, nvv, _, _, l', ac', am', y1, y2, y3, y4, r1, r2, r3, r4, r5⟩
    · right; right
      exact ⟨q', vc, nu, nst, nnx, ntk, nvv, _, _, l', ac', am', y1, y2, y3, y4, by omega, r2, r3, r4, r5, r6, r7, G', r8, r9, r10, r11, r12, r13, by omega⟩
  · left
    rw [if_neg (show ¬ count < 6 by rw [ec]; exact hn), if_pos (show (6 : Int32) ≤ nI (G 0 1) by rw [ec2]; omega)]
    unfold f_X9_windLine_j27 f_X4_fail
    rw [x_shut ht ea, z_ob7, if_pos rfl, z_ob2]
    exact ⟨4, _, _, _, _, _, _, _, _, _, _, _, _, _, _, _, _, _, _, by decide, rfl, rfl, h0⟩
end
