abbrev w_X5_clear (kc : Nat → ClassId) (a0 a1 a2 a3 a4 a5 a6 a7 a8 a9 a10 a11 a12 a13 a14 : Nat) (regions : Int32) (balloons : Int32) (letters : Int32) (loft : Int32) (start : Int32) (seed : Int32) (count : Int32) (turnCount : Int32) : va_W := [(a0, .inr (5, [.ref a1, .ref a2, .ref a3, .ref a4, .ref a5, .ref a6, .ref a7, .ref a8, .int regions, .int balloons, .int letters, .int loft, .int start, .int seed])), (a1, .inr (7, [.int count, .int turnCount, .ref a9, .ref a10, .ref a11, .ref a12, .ref a13, .ref a14]))]
set_option maxHeartbeats 4000000 in
set_option maxRecDepth 100000 in
theorem c_X5_clear (l : Launch) (D : va_G) (kc : Nat → ClassId) (N : Nat) (a0 a1 a2 a3 a4 a5 a6 a7 a8 a9 a10 a11 a12 a13 a14 : Nat) (regions : Int32) (balloons : Int32) (letters : Int32) (loft : Int32) (start : Int32) (seed : Int32) (count : Int32) (turnCount : Int32) (regions' : Int32) (balloons' : Int32) (letters' : Int32) (loft' : Int32) (start' : Int32) (seed' : Int32) (count' : Int32) (turnCount' : Int32) (hf : f_X5_clear N = some (regions', balloons', letters', loft', start', seed', count', turnCount')) : MV l yX5_clear wsX5_clear ({ frames := 1, cells := 0, slots := 0, locals := 20 }) D kc [.ref a0] (w_X5_clear kc a0 a1 a2 a3 a4 a5 a6 a7 a8 a9 a10 a11 a12 a13 a14 regions balloons letters loft start seed count turnCount) (w_X5_clear kc a0 a1 a2 a3 a4 a5 a6 a7 a8 a9 a10 a11 a12 a13 a14 regions' balloons' letters' loft' start' seed' count' turnCount') := by
  refine gM_V (cc := cX5_clear) (maxL := 1) (by decide) rfl (Nat.le_of_ble_eq_true rfl) ?_
  intro p e s m below meth c A ls Q hx hb hml hown hts hN hK hP hD hA hl kR
  have hS : va_S A s.heap s.heap [] := va_S.rf
  have hl : lv_has ls 1 [(0, .ref a0)] := hl
  have in_X5 : ∀ w ∈ u_ws RX5 TX5 14, w ∈ wsX5_clear := by decide +kernel
  have lk_12 := hts (.fieldLink RX5 12 "BalloonMail$Siege" "winds" "LBalloonMail$Winds;") (by decide +kernel)
  have lk_50 := hts (.fieldLink RX5 50 "BalloonMail$Siege" "regions" "I") (by decide +kernel)
  have lk_53 := hts (.fieldLink RX5 53 "BalloonMail$Siege" "balloons" "I") (by decide +kernel)
  have lk_56 := hts (.fieldLink RX5 56 "BalloonMail$Siege" "letters" "I") (by decide +kernel)
  have lk_40 := hts (.fieldLink RX5 40 "BalloonMail$Siege" "loft" "I") (by decide +kernel)
  have lk_59 := hts (.fieldLink RX5 59 "BalloonMail$Siege" "start" "I") (by decide +kernel)
  have lk_44 := hts (.fieldLink RX5 44 "BalloonMail$Siege" "seed" "I") (by decide +kernel)
  unfold f_X5_clear at hf
  refine lv_aload_n hx hb dX5_clear_0 rfl (lv_at hl 0 rfl) ?_
  refine va_get (D := D) (ci := 5) (v := .ref a1) (C := RX5) (T := TX5) (N := 14) hx hb hts in_X5 hown hK hP 0 rfl rfl 0 (by decide) lk_12 (fun _ h9 => h9) rfl dX5_clear_1 ?_
  obtain ⟨count_1, turnCount_2, hc, hf⟩ := ob2_some hf
  refine g_VV (As := []) (rest := []) (ws' := (w_X5_clear kc a0 a1 a2 a3 a4 a5 a6 a7 a8 a9 a10 a11 a12 a13 a14 regions balloons letters loft start seed count_1 turnCount_2)) ⟨hx, hb, hml, hown, hts⟩ hN hK hP hD hS hA (c_X7_clear l D kc N a1 a9 a10 a11 a12 a13 a14 count turnCount count_1 turnCount_2 hc) (cwV 0 hts gX5_clear_X7_clear rfl rfl rfl (by decide +kernel) ⟨Nat.le_of_ble_eq_true rfl, Nat.le_of_ble_eq_true rfl⟩) [1] [0] [0, 1] (by exact ⟨rfl, rfl, by decide, rfl⟩) 1 7 rfl rfl rfl rfl hl.1 rfl (Nat.le_of_ble_eq_true rfl) dX5_clear_4 ⟨Nat.le_refl _, Nat.le_refl _⟩ (fun H locs hP hD hS => ?_)
  refine lv_aload_n hx hb dX5_clear_7 rfl (lv_at hl 0 rfl) ?_
  refine lv_iconst (v := 0) hx hb dX5_clear_8 (by decide) ?_
  refine va_put (D := D) (ci := 5) (v := .int 0) (ty := .int) (C := RX5) (T := TX5) (N := 14) hx hb hts in_X5 tyX5 tyX5_ok nmX5 hown hK hP hD hS 0 rfl rfl 8 (by decide) lk_50 (fun _ h9 => h9) rfl (by decide +kernel) rfl rfl (Nat.le_of_ble_eq_true rfl) dX5_clear_9 (fun H locs hP hD hS => ?_)
  have hP : va_P D vwCl (w_X5_clear kc a0 a1 a2 a3 a4 a5 a6 a7 a8 a9 a10 a11 a12 a13 a14 0 balloons letters loft start seed count_1 turnCount_2) H := hP
  have hD : va_D A (w_X5_clear kc a0 a1 a2 a3 a4 a5 a6 a7 a8 a9 a10 a11 a12 a13 a14 0 balloons letters loft start seed count_1 turnCount_2) := hD
  refine lv_aload_n hx hb dX5_clear_12 rfl (lv_at hl 0 rfl) ?_
  refine lv_iconst (v := 0) hx hb dX5_clear_13 (by decide) ?_
  refine va_put (D := D) (ci := 5) (v := .int 0) (ty := .int) (C := RX5) (T := TX5) (N := 14) hx hb hts in_X5 tyX5 tyX5_ok nmX5 hown hK hP hD hS 0 rfl rfl 9 (by decide) lk_53 (fun _ h9 => h9) rfl (by decide +kernel) rfl rfl (Nat.le_of_ble_eq_true rfl) dX5_clear_14 (fun H locs hP hD hS => ?_)
  have hP : va_P D vwCl (w_X5_clear kc a0 a1 a2 a3 a4 a5 a6 a7 a8 a9 a10 a11 a12 a13 a14 0 0 letters loft start seed count_1 turnCount_2) H := hP
  have hD : va_D A (w_X5_clear kc a0 a1 a2 a3 a4 a5 a6 a7 a8 a9 a10 a11 a12 a13 a14 0 0 letters loft start seed count_1 turnCount_2) := hD
  refine lv_aload_n hx hb dX5_clear_17 rfl (lv_at hl 0 rfl) ?_
  refine lv_iconst (v := 0) hx hb dX5_clear_18 (by decide) ?_
  refine va_put (D := D) (ci := 5) (v := .int 0) (ty := .int) (C := RX5) (T := TX5) (N := 14) hx hb hts in_X5 tyX5 tyX5_ok nmX5 hown hK hP hD hS 0 rfl rfl 10 (by decide) lk_56 (fun _ h9 => h9) rfl (by decide +kernel) rfl rfl (Nat.le_of_ble_eq_true rfl) dX5_clear_19 (fun H locs hP hD hS => ?_)
  have hP : va_P D vwCl (w_X5_clear kc a0 a1 a2 a3 a4 a5 a6 a7 a8 a9 a10 a11 a12 a13 a14 0 0 0 loft start seed count_1 turnCount_2) H := hP
  have hD : va_D A (w_X5_clear kc a0 a1 a2 a3 a4 a5 a6 a7 a8 a9 a10 a11 a12 a13 a14 0 0 0 loft start seed count_1 turnCount_2) := hD
  refine lv_aload_n hx hb dX5_clear_22 rfl (lv_at hl 0 rfl) ?_
  refine lv_bipush (v := 8) hx hb dX5_clear_23 (by decide) ?_
  refine va_put (D := D) (ci := 5) (v := .int 8) (ty := .int) (C := RX5) (T := TX5) (N := 14) hx hb hts in_X5 tyX5 tyX5_ok nmX5 hown hK hP hD hS 0 rfl rfl 11 (by decide) lk_40 (fun _ h9 => h9) rfl (by decide +kernel) rfl rfl (Nat.le_of_ble_eq_true rfl) dX5_clear_25 (fun H locs hP hD hS => ?_)
  have hP : va_P D vwCl (w_X5_clear kc a0 a1 a2 a3 a4 a5 a6 a7 a8 a9 a10 a11 a12 a13 a14 0 0 0 8 start seed count_1 turnCount_2) H := hP
  have hD : va_D A (w_X5_clear kc a0 a1 a2 a3 a4 a5 a6 a7 a8 a9 a10 a11 a12 a13 a14 0 0 0 8 start seed count_1 turnCount_2) := hD
  refine lv_aload_n hx hb dX5_clear_28 rfl (lv_at hl 0 rfl) ?_
  refine lv_iconst (v := 0) hx hb dX5_clear_29 (by decide) ?_
  refine va_put (D := D) (ci := 5) (v := .int 0) (ty := .int) (C := RX5) (T := TX5) (N := 14) hx hb hts in_X5 tyX5 tyX5_ok nmX5 hown hK hP hD hS 0 rfl rfl 12 (by decide) lk_59 (fun _ h9 => h9) rfl (by decide +kernel) rfl rfl (Nat.le_of_ble_eq_true rfl) dX5_clear_30 (fun H locs hP hD hS => ?_)
  have hP : va_P D vwCl (w_X5_clear kc a0 a1 a2 a3 a4 a5 a6 a7 a8 a9 a10 a11 a12 a13 a14 0 0 0 8 0 seed count_1 turnCount_2) H := hP
  have hD : va_D A (w_X5_clear kc a0 a1 a2 a3 a4 a5 a6 a7 a8 a9 a10 a11 a12 a13 a14 0 0 0 8 0 seed count_1 turnCount_2) := hD
  refine lv_aload_n hx hb dX5_clear_33 rfl (lv_at hl 0 rfl) ?_
  refine lv_iconst (v := 1) hx hb dX5_clear_34 (by decide) ?_
  refine va_put (D := D) (ci := 5) (v := .int 1) (ty := .int) (C := RX5) (T := TX5) (N := 14) hx hb hts in_X5 tyX5 tyX5_ok nmX5 hown hK hP hD hS 0 rfl rfl 13 (by decide) lk_44 (fun _ h9 => h9) rfl (by decide +kernel) rfl rfl (Nat.le_of_ble_eq_true rfl) dX5_clear_35 (fun H locs hP hD hS => ?_)
  have hP : va_P D vwCl (w_X5_clear kc a0 a1 a2 a3 a4 a5 a6 a7 a8 a9 a10 a11 a12 a13 a14 0 0 0 8 0 1 count_1 turnCount_2) H := hP
  have hD : va_D A (w_X5_clear kc a0 a1 a2 a3 a4 a5 a6 a7 a8 a9 a10 a11 a12 a13 a14 0 0 0 8 0 1 count_1 turnCount_2) := hD
  cases hf
  exact kR _ _ _ _ hP hD hS dX5_clear_38
abbrev w_X5_hasRegion (kc : Nat → ClassId) (a0 a1 a2 a3 a4 a5 a6 a7 a8 : Nat) (regions : Int32) (balloons : Int32) (letters : Int32) (loft : Int32) (start : Int32) (seed : Int32) : va_W := [(a0, .inr (5, [.ref a1, .ref a2, .ref a3, .ref a4, .ref a5, .ref a6, .ref a7, .ref a8, .int regions, .int balloons, .int letters, .int loft, .int start, .int seed]))]
set_option maxHeartbeats 4000000 in
set_option maxRecDepth 100000 in
theorem c_X5_hasRegion (l : Launch) (D : va_G) (kc : Nat → ClassId) (N : Nat) (a0 a1 a2 a3 a4 a5 a6 a7 a8 : Nat) (regions : Int32) (balloons : Int32) (letters : Int32) (loft : Int32) (start : Int32) (seed : Int32) (x1 : Int32) (r_ : Int32) (hf : f_X5_hasRegion N regions x1 = some r_) : MZ l yX5_hasRegion wsX5_hasRegion ({ frames := 0, cells := 0, slots := 0, locals := 0 }) D kc [.ref a0, .int x1] (w_X5_hasRegion kc a0 a1 a2 a3 a4 a5 a6 a7 a8 regions balloons letters loft start seed) (w_X5_hasRegion kc a0 a1 a2 a3 a4 a5 a6 a7 a8 regions balloons letters loft start seed) r_ := by
  refine gM_Z (cc := cX5_hasRegion) (maxL := 2) (by decide) rfl (Nat.le_of_ble_eq_true rfl) ?_
  intro p e s m below meth c A ls Q hx hb hml hown hts hN hK hP hD hA hl kR
  have hS : va_S A s.heap s.heap [] := va_S.rf
  have hl : lv_has ls 2 [(0, .ref a0), (1, .int x1)] := hl
  have in_X5 : ∀ w ∈ u_ws RX5 TX5 14, w ∈ wsX5_hasRegion := by decide +kernel
  have lk_50 := hts (.fieldLink RX5 50 "BalloonMail$Siege" "regions" "I") (by decide +kernel)
  unfold f_X5_hasRegion at hf
  refine lv_iload_n hx hb dX5_hasRegion_0 rfl (lv_at hl 1 rfl) ?_
  refine lv_if_lt (tgt := 16) hx hb dX5_hasRegion_1 (by decide) (fun hc => ?_) (fun hc => ?_)
  · have hf := o_t hc hf
    refine lv_iconst (v := 0) hx hb dX5_hasRegion_16 (by decide) ?_
    cases hf
    exact kR _ _ _ _ (Or.inl rfl) hP hD hS dX5_hasRegion_17
  · have hf := o_f hc hf
    refine lv_iload_n hx hb dX5_hasRegion_4 rfl (lv_at hl 1 rfl) ?_
    refine lv_aload_n hx hb dX5_hasRegion_5 rfl (lv_at hl 0 rfl) ?_
    refine va_get (D := D) (ci := 5) (v := .int regions) (C := RX5) (T := TX5) (N := 14) hx hb hts in_X5 hown hK hP 0 rfl rfl 8 (by decide) lk_50 (fun _ h9 => h9) rfl dX5_hasRegion_6 ?_
    refine lv_icmp_ge (tgt := 16) hx hb dX5_hasRegion_9 (by decide) (fun hc => ?_) (fun hc => ?_)
    · have hf := o_t hc hf
      refine lv_iconst (v := 0) hx hb dX5_hasRegion_16 (by decide) ?_
      cases hf
      exact kR _ _ _ _ (Or.inl rfl) hP hD hS dX5_hasRegion_17
    · have hf := o_f hc hf
      refine lv_iconst (v := 1) hx hb dX5_hasRegion_12 (by decide) ?_
      refine lv_goto (tgt := 17) hx hb dX5_hasRegion_13 (by decide) ?_
      cases hf
      exact kR _ _ _ _ (Or.inr rfl) hP hD hS dX5_hasRegion_17
abbrev w_X5_hasBalloon (kc : Nat → ClassId) (a0 a1 a2 a3 a4 a5 a6 a7 a8 : Nat) (regions : Int32) (balloons : Int32) (letters : Int32) (loft : Int32) (start : Int32) (seed : Int32) : va_W := [(a0, .inr (5, [.ref a1, .ref a2, .ref a3, .ref a4, .ref a5, .ref a6, .ref a7, .ref a8, .int regions, .int balloons, .int letters, .int loft, .int start, .int seed]))]
set_option maxHeartbeats 4000000 in
set_option maxRecDepth 100000 in
theorem c_X5_hasBalloon (l : Launch) (D : va_G) (kc : Nat → ClassId) (N : Nat) (a0 a1 a2 a3 a4 a5 a6 a7 a8 : Nat) (regions : Int32) (balloons : Int32) (letters : Int32) (loft : Int32) (start : Int32) (seed : Int32) (x1 : Int32) (r_ : Int32) (hf : f_X5_hasBalloon N balloons x1 = some r_) : MZ l yX5_hasBalloon wsX5_hasBalloon ({ frames := 0, cells := 0, slots := 0, locals := 0 }) D kc [.ref a0, .int x1] (w_X5_hasBalloon kc a0 a1 a2 a3 a4 a5 a6 a7 a8 regions balloons letters loft start seed) (w_X5_hasBalloon kc a0 a1 a2 a3 a4 a5 a6 a7 a8 regions balloons letters loft start seed) r_ := by
  refine gM_Z (cc := cX5_hasBalloon) (maxL := 2) (by decide) rfl (Nat.le_of_ble_eq_true rfl) ?_
  intro p e s m below meth c A ls Q hx hb hml hown hts hN hK hP hD hA hl kR
  have hS : va_S A s.heap s.heap [] := va_S.rf
  have hl : lv_has ls 2 [(0, .ref a0), (1, .int x1)] := hl
  have in_X5 : ∀ w ∈ u_ws RX5 TX5 14, w ∈ wsX5_hasBalloon := by decide +kernel
  have lk_53 := hts (.fieldLink RX5 53 "BalloonMail$Siege" "balloons" "I") (by decide +kernel)
  unfold f_X5_hasBalloon at hf
  refine lv_iload_n hx hb dX5_hasBalloon_0 rfl (lv_at hl 1 rfl) ?_
  refine lv_if_lt (tgt := 16) hx hb dX5_hasBalloon_1 (by decide) (fun hc => ?_) (fun hc => ?_)
  · have hf := o_t hc hf
    refine lv_iconst (v := 0) hx hb dX5_hasBalloon_16 (by decide) ?_
    cases hf
    exact kR _ _ _ _ (Or.inl rfl) hP hD hS dX5_hasBalloon_17
  · have hf := o_f hc hf
    refine lv_iload_n hx hb dX5_hasBalloon_4 rfl (lv_at hl 1 rfl) ?_
    refine lv_aload_n hx hb dX5_hasBalloon_5 rfl (lv_at hl 0 rfl) ?_
    refine va_get (D := D) (ci := 5) (v := .int balloons) (C := RX5) (T := TX5) (N := 14) hx hb hts in_X5 hown hK hP 0 rfl rfl 9 (by decide) lk_53 (fun _ h9 => h9) rfl dX5_hasBalloon_6 ?_
    refine lv_icmp_ge (tgt := 16) hx hb dX5_hasBalloon_9 (by decide) (fun hc => ?_) (fun hc => ?_)
    · have hf := o_t hc hf
      refine lv_iconst (v := 0) hx hb dX5_hasBalloon_16 (by decide) ?_
      cases hf
      exact kR _ _ _ _ (Or.inl rfl) hP hD hS dX5_hasBalloon_17
    · have hf := o_f hc hf
      refine lv_iconst (v := 1) hx hb dX5_hasBalloon_12 (by decide) ?_
      refine lv_goto (tgt := 17) hx hb dX5_hasBalloon_13 (by decide) ?_
      cases hf
      exact kR _ _ _ _ (Or.inr rfl) hP hD hS dX5_hasBalloon_17
abbrev w_X5_hasLetter (kc : Nat → ClassId) (a0 a1 a2 a3 a4 a5 a6 a7 a8 : Nat) (regions : Int32) (balloons : Int32) (letters : Int32) (loft : Int32) (start : Int32) (seed : Int32) : va_W := [(a0, .inr (5, [.ref a1, .ref a2, .ref a3, .ref a4, .ref a5, .ref a6, .ref a7, .ref a8, .int regions, .int balloons, .int letters, .int loft, .int start, .int seed]))]
set_option maxHeartbeats 4000000 in
set_option maxRecDepth 100000 in
theorem c_X5_hasLetter (l : Launch) (D : va_G) (kc : Nat → ClassId) (N : Nat) (a0 a1 a2 a3 a4 a5 a6 a7 a8 : Nat) (regions : Int32) (balloons : Int32) (letters : Int32) (loft : Int32) (start : Int32) (seed : Int32) (x1 : Int32) (r_ : Int32) (hf : f_X5_hasLetter N letters x1 = some r_) : MZ l yX5_hasLetter wsX5_hasLetter ({ frames := 0, cells := 0, slots := 0, locals := 0 }) D kc [.ref a0, .int x1] (w_X5_hasLetter kc a0 a1 a2 a3 a4 a5 a6 a7 a8 regions balloons letters loft start seed) (w_X5_hasLetter kc a0 a1 a2 a3 a4 a5 a6 a7 a8 regions balloons letters loft start seed) r_ := by
  refine gM_Z (cc := cX5_hasLetter) (maxL := 2) (by decide) rfl (Nat.le_of_ble_eq_true rfl) ?_
  intro p e s m below meth c A ls Q hx hb hml hown hts hN hK hP hD hA hl kR
  have hS : va_S A s.heap s.heap [] := va_S.rf
  have hl : lv_has ls 2 [(0, .ref a0), (1, .int x1)] := hl
  have in_X5 : ∀ w ∈ u_ws RX5 TX5 14, w ∈ wsX5_hasLetter := by decide +kernel
  have lk_56 := hts (.fieldLink RX5 56 "BalloonMail$Siege" "letters" "I") (by decide +kernel)
  unfold f_X5_hasLetter at hf
  refine lv_iload_n hx hb dX5_hasLetter_0 rfl (lv_at hl 1 rfl) ?_
  refine lv_if_lt (tgt := 16) hx hb dX5_hasLetter_1 (by decide) (fun hc => ?_) (fun hc => ?_)
  · have hf := o_t hc hf
    refine lv_iconst (v := 0) hx hb dX5_hasLetter_16 (by decide) ?_
    cases hf
    exact kR _ _ _ _ (Or.inl rfl) hP hD hS dX5_hasLetter_17
  · have hf := o_f hc hf
    refine lv_iload_n hx hb dX5_hasLetter_4 rfl (lv_at hl 1 rfl) ?_
    refine lv_aload_n hx hb dX5_hasLetter_5 rfl (lv_at hl 0 rfl) ?_
    refine va_get (D := D) (ci := 5) (v := .int letters) (C := RX5) (T := TX5) (N := 14) hx hb hts in_X5 hown hK hP 0 rfl rfl 10 (by decide) lk_56 (fun _ h9 => h9) rfl dX5_hasLetter_6 ?_
    refine lv_icmp_ge (tgt := 16) hx hb dX5_hasLetter_9 (by decide) (fun hc => ?_) (fun hc => ?_)
    · have hf := o_t hc hf
      refine lv_iconst (v := 0) hx hb dX5_hasLetter_16 (by decide) ?_
      cases hf
      exact kR _ _ _ _ (Or.inl rfl) hP hD hS dX5_hasLetter_17
    · have hf := o_f hc hf
      refine lv_iconst (v := 1) hx hb dX5_hasLetter_12 (by decide) ?_
      refine lv_goto (tgt := 17) hx hb dX5_hasLetter_13 (by decide) ?_
      cases hf
      exact kR _ _ _ _ (Or.inr rfl) hP hD hS dX5_hasLetter_17
abbrev w_X5_hasLetters (kc : Nat → ClassId) (a0 a1 a2 a3 a4 a5 a6 a7 a8 : Nat) (regions : Int32) (balloons : Int32) (letters : Int32) (loft : Int32) (start : Int32) (seed : Int32) : va_W := [(a0, .inr (5, [.ref a1, .ref a2, .ref a3, .ref a4, .ref a5, .ref a6, .ref a7, .ref a8, .int regions, .int balloons, .int letters, .int loft, .int start, .int seed]))]
set_option maxHeartbeats 4000000 in
set_option maxRecDepth 100000 in
theorem c_X5_hasLetters (l : Launch) (D : va_G) (kc : Nat → ClassId) (N : Nat) (a0 a1 a2 a3 a4 a5 a6 a7 a8 : Nat) (regions : Int32) (balloons : Int32) (letters : Int32) (loft : Int32) (start : Int32) (seed : Int32) (x1 : Int32) (r_ : Int32) (hf : f_X5_hasLetters N letters x1 = some r_) : MZ l yX5_hasLetters wsX5_hasLetters ({ frames := 0, cells := 0, slots := 0, locals := 0 }) D kc [.ref a0, .int x1] (w_X5_hasLetters kc a0 a1 a2 a3 a4 a5 a6 a7 a8 regions balloons letters loft start seed) (w_X5_hasLetters kc a0 a1 a2 a3 a4 a5 a6 a7 a8 regions balloons letters loft start seed) r_ := by
  refine gM_Z (cc := cX5_hasLetters) (maxL := 2) (by decide) rfl (Nat.le_of_ble_eq_true rfl) ?_
  intro p e s m below meth c A ls Q hx hb hml hown hts hN hK hP hD hA hl kR
  have hS : va_S A s.heap s.heap [] := va_S.rf
  have hl : lv_has ls 2 [(0, .ref a0), (1, .int x1)] := hl
  have in_X5 : ∀ w ∈ u_ws RX5 TX5 14, w ∈ wsX5_hasLetters := by decide +kernel
  have lk_56 := hts (.fieldLink RX5 56 "BalloonMail$Siege" "letters" "I") (by decide +kernel)
  unfold f_X5_hasLetters at hf
  refine lv_iload_n hx hb dX5_hasLetters_0 rfl (lv_at hl 1 rfl) ?_
  refine lv_aload_n hx hb dX5_hasLetters_1 rfl (lv_at hl 0 rfl) ?_
  refine va_get (D := D) (ci := 5) (v := .int letters) (C := RX5) (T := TX5) (N := 14) hx hb hts in_X5 hown hK hP 0 rfl rfl 10 (by decide) lk_56 (fun _ h9 => h9) rfl dX5_hasLetters_2 ?_
  refine lv_iushr hx hb dX5_hasLetters_5 rfl ?_
  refine lv_if_ne (tgt := 13) hx hb dX5_hasLetters_6 (by decide) (fun hc => ?_) (fun hc => ?_)
  · have hf := o_f hc hf
    refine lv_iconst (v := 0) hx hb dX5_hasLetters_13 (by decide) ?_
    cases hf
    exact kR _ _ _ _ (Or.inl rfl) hP hD hS dX5_hasLetters_14
  · have hf := o_t hc hf
    refine lv_iconst (v := 1) hx hb dX5_hasLetters_9 (by decide) ?_
    refine lv_goto (tgt := 14) hx hb dX5_hasLetters_10 (by decide) ?_
    cases hf
    exact kR _ _ _ _ (Or.inr rfl) hP hD hS dX5_hasLetters_14
abbrev w_X5_addRegion (kc : Nat → ClassId) (a0 a1 a2 a3 a4 a5 a6 a7 a8 : Nat) (regions : Int32) (balloons : Int32) (letters : Int32) (loft : Int32) (start : Int32) (seed : Int32) (risk : Nat → Int32) (distance : Nat → Int32) (comeback : Nat → Int32) : va_W := [(a0, .inr (5, [.ref a1, .ref a2, .ref a3, .ref a4, .ref a5, .ref a6, .ref a7, .ref a8, .int regions, .int balloons, .int letters, .int loft, .int start, .int seed])), (a2, .inl (kc 1, 8, .inl risk)), (a3, .inl (kc 1, 8, .inl distance)), (a4, .inl (kc 1, 8, .inl comeback))]
set_option maxHeartbeats 4000000 in
set_option maxRecDepth 100000 in
theorem c_X5_addRegion (l : Launch) (D : va_G) (kc : Nat → ClassId) (N : Nat) (a0 a1 a2 a3 a4 a5 a6 a7 a8 : Nat) (regions : Int32) (balloons : Int32) (letters : Int32) (loft : Int32) (start : Int32) (seed : Int32) (risk : Nat → Int32) (distance : Nat → Int32) (comeback : Nat → Int32) (x1 : Int32) (x2 : Int32) (x3 : Int32) (regions' : Int32) (risk' : Nat → Int32) (distance' : Nat → Int32) (comeback' : Nat → Int32) (hf : f_X5_addRegion N regions risk distance comeback x1 x2 x3 = some (regions', risk', distance', comeback')) : MV l yX5_addRegion wsX5_addRegion ({ frames := 0, cells := 0, slots := 0, locals := 0 }) D kc [.ref a0, .int x1, .int x2, .int x3] (w_X5_addRegion kc a0 a1 a2 a3 a4 a5 a6 a7 a8 regions balloons letters loft start seed risk distance comeback) (w_X5_addRegion kc a0 a1 a2 a3 a4 a5 a6 a7 a8 regions' balloons letters loft start seed risk' distance' comeback') := by
  refine gM_V (cc := cX5_addRegion) (maxL := 4) (by decide) rfl (Nat.le_of_ble_eq_true rfl) ?_
  intro p e s m below meth c A ls Q hx hb hml hown hts hN hK hP hD hA hl kR
  have hS : va_S A s.heap s.heap [] := va_S.rf
  have hl : lv_has ls 4 [(0, .ref a0), (1, .int x1), (2, .int x2), (3, .int x3)] := hl
  have in_X5 : ∀ w ∈ u_ws RX5 TX5 14, w ∈ wsX5_addRegion := by decide +kernel
  have lk_50 := hts (.fieldLink RX5 50 "BalloonMail$Siege" "regions" "I") (by decide +kernel)
  have lk_18 := hts (.fieldLink RX5 18 "BalloonMail$Siege" "risk" "[I") (by decide +kernel)
  have lk_22 := hts (.fieldLink RX5 22 "BalloonMail$Siege" "distance" "[I") (by decide +kernel)
  have lk_25 := hts (.fieldLink RX5 25 "BalloonMail$Siege" "comeback" "[I") (by decide +kernel)
  unfold f_X5_addRegion at hf
  refine lv_aload_n hx hb dX5_addRegion_0 rfl (lv_at hl 0 rfl) ?_
  refine va_get (D := D) (ci := 5) (v := .int regions) (C := RX5) (T := TX5) (N := 14) hx hb hts in_X5 hown hK hP 0 rfl rfl 8 (by decide) lk_50 (fun _ h9 => h9) rfl dX5_addRegion_1 ?_
  refine lv_bipush (v := 8) hx hb dX5_addRegion_4 (by decide) ?_
  refine lv_icmp_ge (tgt := 49) hx hb dX5_addRegion_6 (by decide) (fun hc => ?_) (fun hc => ?_)
  · have hf := o_t hc hf
    cases hf
    exact kR _ _ _ _ hP hD hS dX5_addRegion_49
  · have hf := o_f hc hf
    refine lv_aload_n hx hb dX5_addRegion_9 rfl (lv_at hl 0 rfl) ?_
    refine va_get (D := D) (ci := 5) (v := .ref a2) (C := RX5) (T := TX5) (N := 14) hx hb hts in_X5 hown hK hP 0 rfl rfl 1 (by decide) lk_18 (fun _ h9 => h9) rfl dX5_addRegion_10 ?_
    refine lv_aload_n hx hb dX5_addRegion_13 rfl (lv_at hl 0 rfl) ?_
    refine va_get (D := D) (ci := 5) (v := .int regions) (C := RX5) (T := TX5) (N := 14) hx hb hts in_X5 hown hK hP 0 rfl rfl 8 (by decide) lk_50 (fun _ h9 => h9) rfl dX5_addRegion_14 ?_
    refine lv_iload_n hx hb dX5_addRegion_17 rfl (lv_at hl 1 rfl) ?_
    obtain ⟨hi, hf⟩ := gIx_some hf
    refine va_iast hx hb hK hP hD hS 1 1 rfl rfl hi dX5_addRegion_18 (fun H locs hP hD hS => ?_)
    have hP : va_P D vwCl (w_X5_addRegion kc a0 a1 a2 a3 a4 a5 a6 a7 a8 regions balloons letters loft start seed (upd risk (regions : Int32).toNatClampNeg x1) distance comeback) H := hP
    have hD : va_D A (w_X5_addRegion kc a0 a1 a2 a3 a4 a5 a6 a7 a8 regions balloons letters loft start seed (upd risk (regions : Int32).toNatClampNeg x1) distance comeback) := hD
    refine lv_aload_n hx hb dX5_addRegion_19 rfl (lv_at hl 0 rfl) ?_
    refine va_get (D := D) (ci := 5) (v := .ref a3) (C := RX5) (T := TX5) (N := 14) hx hb hts in_X5 hown hK hP 0 rfl rfl 2 (by decide) lk_22 (fun _ h9 => h9) rfl dX5_addRegion_20 ?_
    refine lv_aload_n hx hb dX5_addRegion_23 rfl (lv_at hl 0 rfl) ?_
    refine va_get (D := D) (ci := 5) (v := .int regions) (C := RX5) (T := TX5) (N := 14) hx hb hts in_X5 hown hK hP 0 rfl rfl 8 (by decide) lk_50 (fun _ h9 => h9) rfl dX5_addRegion_24 ?_
    refine lv_iload_n hx hb dX5_addRegion_27 rfl (lv_at hl 2 rfl) ?_
    obtain ⟨hi, hf⟩ := gIx_some hf
    refine va_iast hx hb hK hP hD hS 2 1 rfl rfl hi dX5_addRegion_28 (fun H locs hP hD hS => ?_)
    have hP : va_P D vwCl (w_X5_addRegion kc a0 a1 a2 a3 a4 a5 a6 a7 a8 regions balloons letters loft start seed (upd risk (regions : Int32).toNatClampNeg x1) (upd distance (regions : Int32).toNatClampNeg x2) comeback) H := hP
    have hD : va_D A (w_X5_addRegion kc a0 a1 a2 a3 a4 a5 a6 a7 a8 regions balloons letters loft start seed (upd risk (regions : Int32).toNatClampNeg x1) (upd distance (regions : Int32).toNatClampNeg x2) comeback) := hD
    refine lv_aload_n hx hb dX5_addRegion_29 rfl (lv_at hl 0 rfl) ?_
    refine va_get (D := D) (ci := 5) (v := .ref a4) (C := RX5) (T := TX5) (N := 14) hx hb hts in_X5 hown hK hP 0 rfl rfl 3 (by decide) lk_25 (fun _ h9 => h9) rfl dX5_addRegion_30 ?_
    refine lv_aload_n hx hb dX5_addRegion_33 rfl (lv_at hl 0 rfl) ?_
    refine va_get (D := D) (ci := 5) (v := .int regions) (C := RX5) (T := TX5) (N := 14) hx hb hts in_X5 hown hK hP 0 rfl rfl 8 (by decide) lk_50 (fun _ h9 => h9) rfl dX5_addRegion_34 ?_
    refine lv_iload_n hx hb dX5_addRegion_37 rfl (lv_at hl 3 rfl) ?_
    obtain ⟨hi, hf⟩ := gIx_some hf
    refine va_iast hx hb hK hP hD hS 3 1 rfl rfl hi dX5_addRegion_38 (fun H locs hP hD hS => ?_)
    have hP : va_P D vwCl (w_X5_addRegion kc a0 a1 a2 a3 a4 a5 a6 a7 a8 regions balloons letters loft start seed (upd risk (regions : Int32).toNatClampNeg x1) (upd distance (regions : Int32).toNatClampNeg x2) (upd comeback (regions : Int32).toNatClampNeg x3)) H := hP
    have hD : va_D A (w_X5_addRegion kc a0 a1 a2 a3 a4 a5 a6 a7 a8 regions balloons letters loft start seed (upd risk (regions : Int32).toNatClampNeg x1) (upd distance (regions : Int32).toNatClampNeg x2) (upd comeback (regions : Int32).toNatClampNeg x3)) := hD
    refine lv_aload_n hx hb dX5_addRegion_39 rfl (lv_at hl 0 rfl) ?_
    refine lv_dup hx hb dX5_addRegion_40 rfl ?_
    refine va_get (D := D) (ci := 5) (v := .int regions) (C := RX5) (T := TX5) (N := 14) hx hb hts in_X5 hown hK hP 0 rfl rfl 8 (by decide) lk_50 (fun _ h9 => h9) rfl dX5_addRegion_41 ?_
    refine lv_iconst (v := 1) hx hb dX5_addRegion_44 (by decide) ?_
    refine lv_iadd hx hb dX5_addRegion_45 ?_
    refine va_put (D := D) (ci := 5) (v := .int (regions + 1)) (ty := .int) (C := RX5) (T := TX5) (N := 14) hx hb hts in_X5 tyX5 tyX5_ok nmX5 hown hK hP hD hS 0 rfl rfl 8 (by decide) lk_50 (fun _ h9 => h9) rfl (by decide +kernel) rfl rfl (Nat.le_of_ble_eq_true rfl) dX5_addRegion_46 (fun H locs hP hD hS => ?_)
    have hP : va_P D vwCl (w_X5_addRegion kc a0 a1 a2 a3 a4 a5 a6 a7 a8 (regions + 1) balloons letters loft start seed (upd risk (regions : Int32).toNatClampNeg x1) (upd distance (regions : Int32).toNatClampNeg x2) (upd comeback (regions : Int32).toNatClampNeg x3)) H := hP
    have hD : va_D A (w_X5_addRegion kc a0 a1 a2 a3 a4 a5 a6 a7 a8 (regions + 1) balloons letters loft start seed (upd risk (regions : Int32).toNatClampNeg x1) (upd distance (regions : Int32).toNatClampNeg x2) (upd comeback (regions : Int32).toNatClampNeg x3)) := hD
    cases hf
    exact kR _ _ _ _ hP hD hS dX5_addRegion_49
abbrev w_X5_addBalloon (kc : Nat → ClassId) (a0 a1 a2 a3 a4 a5 a6 a7 a8 : Nat) (regions : Int32) (balloons : Int32) (letters : Int32) (loft : Int32) (start : Int32) (seed : Int32) (capacity : Nat → Int32) (pigeons : Nat → Int32) : va_W := [(a0, .inr (5, [.ref a1, .ref a2, .ref a3, .ref a4, .ref a5, .ref a6, .ref a7, .ref a8, .int regions, .int balloons, .int letters, .int loft, .int start, .int seed])), (a5, .inl (kc 1, 10, .inl capacity)), (a6, .inl (kc 1, 10, .inl pigeons))]
set_option maxHeartbeats 4000000 in
set_option maxRecDepth 100000 in
theorem c_X5_addBalloon (l : Launch) (D : va_G) (kc : Nat → ClassId) (N : Nat) (a0 a1 a2 a3 a4 a5 a6 a7 a8 : Nat) (regions : Int32) (balloons : Int32) (letters : Int32) (loft : Int32) (start : Int32) (seed : Int32) (capacity : Nat → Int32) (pigeons : Nat → Int32) (x1 : Int32) (x2 : Int32) (balloons' : Int32) (capacity' : Nat → Int32) (pigeons' : Nat → Int32) (hf : f_X5_addBalloon N balloons capacity pigeons x1 x2 = some (balloons', capacity', pigeons')) : MV l yX5_addBalloon wsX5_addBalloon ({ frames := 0, cells := 0, slots := 0, locals := 0 }) D kc [.ref a0, .int x1, .int x2] (w_X5_addBalloon kc a0 a1 a2 a3 a4 a5 a6 a7 a8 regions balloons letters loft start seed capacity pigeons) (w_X5_addBalloon kc a0 a1 a2 a3 a4 a5 a6 a7 a8 regions balloons' letters loft start seed capacity' pigeons') := by
  refine gM_V (cc := cX5_addBalloon) (maxL := 3) (by decide) rfl (Nat.le_of_ble_eq_true rfl) ?_
  intro p e s m below meth c A ls Q hx hb hml hown hts hN hK hP hD hA hl kR
  have hS : va_S A s.heap s.heap [] := va_S.rf
  have hl : lv_has ls 3 [(0, .ref a0), (1, .int x1), (2, .int x2)] := hl
  have in_X5 : ∀ w ∈ u_ws RX5 TX5 14, w ∈ wsX5_addBalloon := by decide +kernel
  have lk_53 := hts (.fieldLink RX5 53 "BalloonMail$Siege" "balloons" "I") (by decide +kernel)
  have lk_28 := hts (.fieldLink RX5 28 "BalloonMail$Siege" "capacity" "[I") (by decide +kernel)
  have lk_31 := hts (.fieldLink RX5 31 "BalloonMail$Siege" "pigeons" "[I") (by decide +kernel)
  unfold f_X5_addBalloon at hf
  refine lv_aload_n hx hb dX5_addBalloon_0 rfl (lv_at hl 0 rfl) ?_
  refine va_get (D := D) (ci := 5) (v := .int balloons) (C := RX5) (T := TX5) (N := 14) hx hb hts in_X5 hown hK hP 0 rfl rfl 9 (by decide) lk_53 (fun _ h9 => h9) rfl dX5_addBalloon_1 ?_
  refine lv_bipush (v := 10) hx hb dX5_addBalloon_4 (by decide) ?_
  refine lv_icmp_ge (tgt := 39) hx hb dX5_addBalloon_6 (by decide) (fun hc => ?_) (fun hc => ?_)
  · have hf := o_t hc hf
    cases hf
    exact kR _ _ _ _ hP hD hS dX5_addBalloon_39
  · have hf := o_f hc hf
    refine lv_aload_n hx hb dX5_addBalloon_9 rfl (lv_at hl 0 rfl) ?_
    refine va_get (D := D) (ci := 5) (v := .ref a5) (C := RX5) (T := TX5) (N := 14) hx hb hts in_X5 hown hK hP 0 rfl rfl 4 (by decide) lk_28 (fun _ h9 => h9) rfl dX5_addBalloon_10 ?_
    refine lv_aload_n hx hb dX5_addBalloon_13 rfl (lv_at hl 0 rfl) ?_
    refine va_get (D := D) (ci := 5) (v := .int balloons) (C := RX5) (T := TX5) (N := 14) hx hb hts in_X5 hown hK hP 0 rfl rfl 9 (by decide) lk_53 (fun _ h9 => h9) rfl dX5_addBalloon_14 ?_
    refine lv_iload_n hx hb dX5_addBalloon_17 rfl (lv_at hl 1 rfl) ?_
    obtain ⟨hi, hf⟩ := gIx_some hf
    refine va_iast hx hb hK hP hD hS 1 1 rfl rfl hi dX5_addBalloon_18 (fun H locs hP hD hS => ?_)
    have hP : va_P D vwCl (w_X5_addBalloon kc a0 a1 a2 a3 a4 a5 a6 a7 a8 regions balloons letters loft start seed (upd capacity (balloons : Int32).toNatClampNeg x1) pigeons) H := hP
    have hD : va_D A (w_X5_addBalloon kc a0 a1 a2 a3 a4 a5 a6 a7 a8 regions balloons letters loft start seed (upd capacity (balloons : Int32).toNatClampNeg x1) pigeons) := hD
    refine lv_aload_n hx hb dX5_addBalloon_19 rfl (lv_at hl 0 rfl) ?_
    refine va_get (D := D) (ci := 5) (v := .ref a6) (C := RX5) (T := TX5) (N := 14) hx hb hts in_X5 hown hK hP 0 rfl rfl 5 (by decide) lk_31 (fun _ h9 => h9) rfl dX5_addBalloon_20 ?_
    refine lv_aload_n hx hb dX5_addBalloon_23 rfl (lv_at hl 0 rfl) ?_
    refine va_get (D := D) (ci := 5) (v := .int balloons) (C := RX5) (T := TX5) (N := 14) hx hb hts in_X5 hown hK hP 0 rfl rfl 9 (by decide) lk_53 (fun _ h9 => h9) rfl dX5_addBalloon_24 ?_
    refine lv_iload_n hx hb dX5_addBalloon_27 rfl (lv_at hl 2 rfl) ?_
    obtain ⟨hi, hf⟩ := gIx_some hf
    refine va_iast hx hb hK hP hD hS 2 1 rfl rfl hi dX5_addBalloon_28 (fun H locs hP hD hS => ?_)
    have hP : va_P D vwCl (w_X5_addBalloon kc a0 a1 a2 a3 a4 a5 a6 a7 a8 regions balloons letters loft start seed (upd capacity (balloons : Int32).toNatClampNeg x1) (upd pigeons (balloons : Int32).toNatClampNeg x2)) H := hP
    have hD : va_D A (w_X5_addBalloon kc a0 a1 a2 a3 a4 a5 a6 a7 a8 regions balloons letters loft start seed (upd capacity (balloons : Int32).toNatClampNeg x1) (upd pigeons (balloons : Int32).toNatClampNeg x2)) := hD
    refine lv_aload_n hx hb dX5_addBalloon_29 rfl (lv_at hl 0 rfl) ?_
    refine lv_dup hx hb dX5_addBalloon_30 rfl ?_
    refine va_get (D := D) (ci := 5) (v := .int balloons) (C := RX5) (T := TX5) (N := 14) hx hb hts in_X5 hown hK hP 0 rfl rfl 9 (by decide) lk_53 (fun _ h9 => h9) rfl dX5_addBalloon_31 ?_
    refine lv_iconst (v := 1) hx hb dX5_addBalloon_34 (by decide) ?_
    refine lv_iadd hx hb dX5_addBalloon_35 ?_
    refine va_put (D := D) (ci := 5) (v := .int (balloons + 1)) (ty := .int) (C := RX5) (T := TX5) (N := 14) hx hb hts in_X5 tyX5 tyX5_ok nmX5 hown hK hP hD hS 0 rfl rfl 9 (by decide) lk_53 (fun _ h9 => h9) rfl (by decide +kernel) rfl rfl (Nat.le_of_ble_eq_true rfl) dX5_addBalloon_36 (fun H locs hP hD hS => ?_)
    have hP : va_P D vwCl (w_X5_addBalloon kc a0 a1 a2 a3 a4 a5 a6 a7 a8 regions (balloons + 1) letters loft start seed (upd capacity (balloons : Int32).toNatClampNeg x1) (upd pigeons (balloons : Int32).toNatClampNeg x2)) H := hP
    have hD : va_D A (w_X5_addBalloon kc a0 a1 a2 a3 a4 a5 a6 a7 a8 regions (balloons + 1) letters loft start seed (upd capacity (balloons : Int32).toNatClampNeg x1) (upd pigeons (balloons : Int32).toNatClampNeg x2)) := hD
    cases hf
    exact kR _ _ _ _ hP hD hS dX5_addBalloon_39
abbrev w_X5_addLetter (kc : Nat → ClassId) (a0 a1 a2 a3 a4 a5 a6 a7 a8 : Nat) (regions : Int32) (balloons : Int32) (letters : Int32) (loft : Int32) (start : Int32) (seed : Int32) (weight : Nat → Int32) (priority : Nat → Int32) : va_W := [(a0, .inr (5, [.ref a1, .ref a2, .ref a3, .ref a4, .ref a5, .ref a6, .ref a7, .ref a8, .int regions, .int balloons, .int letters, .int loft, .int start, .int seed])), (a7, .inl (kc 1, 24, .inl weight)), (a8, .inl (kc 1, 24, .inl priority))]
set_option maxHeartbeats 4000000 in
set_option maxRecDepth 100000 in
theorem c_X5_addLetter (l : Launch) (D : va_G) (kc : Nat → ClassId) (N : Nat) (a0 a1 a2 a3 a4 a5 a6 a7 a8 : Nat) (regions : Int32) (balloons : Int32) (letters : Int32) (loft : Int32) (start : Int32) (seed : Int32) (weight : Nat → Int32) (priority : Nat → Int32) (x1 : Int32) (x2 : Int32) (letters' : Int32) (weight' : Nat → Int32) (priority' : Nat → Int32) (hf : f_X5_addLetter N letters weight priority x1 x2 = some (letters', weight', priority')) : MV l yX5_addLetter wsX5_addLetter ({ frames := 0, cells := 0, slots := 0, locals := 0 }) D kc [.ref a0, .int x1, .int x2] (w_X5_addLetter kc a0 a1 a2 a3 a4 a5 a6 a7 a8 regions balloons letters loft start seed weight priority) (w_X5_addLetter kc a0 a1 a2 a3 a4 a5 a6 a7 a8 regions balloons letters' loft start seed weight' priority') := by
  refine gM_V (cc := cX5_addLetter) (maxL := 3) (by decide) rfl (Nat.le_of_ble_eq_true rfl) ?_
  intro p e s m below meth c A ls Q hx hb hml hown hts hN hK hP hD hA hl kR
  have hS : va_S A s.heap s.heap [] := va_S.rf
  have hl : lv_has ls 3 [(0, .ref a0), (1, .int x1), (2, .int x2)] := hl
  have in_X5 : ∀ w ∈ u_ws RX5 TX5 14, w ∈ wsX5_addLetter := by decide +kernel
  have lk_56 := hts (.fieldLink RX5 56 "BalloonMail$Siege" "letters" "I") (by decide +kernel)
  have lk_34 := hts (.fieldLink RX5 34 "BalloonMail$Siege" "weight" "[I") (by decide +kernel)
  have lk_37 := hts (.fieldLink RX5 37 "BalloonMail$Siege" "priority" "[I") (by decide +kernel)
  unfold f_X5_addLetter at hf
  refine lv_aload_n hx hb dX5_addLetter_0 rfl (lv_at hl 0 rfl) ?_
  refine va_get (D := D) (ci := 5) (v := .int letters) (C := RX5) (T := TX5) (N := 14) hx hb hts in_X5 hown hK hP 0 rfl rfl 10 (by decide) lk_56 (fun _ h9 => h9) rfl dX5_addLetter_1 ?_
  refine lv_bipush (v := 24) hx hb dX5_addLetter_4 (by decide) ?_
  refine lv_icmp_ge (tgt := 39) hx hb dX5_addLetter_6 (by decide) (fun hc => ?_) (fun hc => ?_)
  · have hf := o_t hc hf
    cases hf
    exact kR _ _ _ _ hP hD hS dX5_addLetter_39
  · have hf := o_f hc hf
    refine lv_aload_n hx hb dX5_addLetter_9 rfl (lv_at hl 0 rfl) ?_
    refine va_get (D := D) (ci := 5) (v := .ref a7) (C := RX5) (T := TX5) (N := 14) hx hb hts in_X5 hown hK hP 0 rfl rfl 6 (by decide) lk_34 (fun _ h9 => h9) rfl dX5_addLetter_10 ?_
    refine lv_aload_n hx hb dX5_addLetter_13 rfl (lv_at hl 0 rfl) ?_
    refine va_get (D := D) (ci := 5) (v := .int letters) (C := RX5) (T := TX5) (N := 14) hx hb hts in_X5 hown hK hP 0 rfl rfl 10 (by decide) lk_56 (fun _ h9 => h9) rfl dX5_addLetter_14 ?_
    refine lv_iload_n hx hb dX5_addLetter_17 rfl (lv_at hl 1 rfl) ?_
    obtain ⟨hi, hf⟩ := gIx_some hf
    refine va_iast hx hb hK hP hD hS 1 1 rfl rfl hi dX5_addLetter_18 (fun H locs hP hD hS => ?_)
    have hP : va_P D vwCl (w_X5_addLetter kc a0 a1 a2 a3 a4 a5 a6 a7 a8 regions balloons letters loft start seed (upd weight (letters : Int32).toNatClampNeg x1) priority) H := hP
    have hD : va_D A (w_X5_addLetter kc a0 a1 a2 a3 a4 a5 a6 a7 a8 regions balloons letters loft start seed (upd weight (letters : Int32).toNatClampNeg x1) priority) := hD
    refine lv_aload_n hx hb dX5_addLetter_19 rfl (lv_at hl 0 rfl) ?_
    refine va_get (D := D) (ci := 5) (v := .ref a8) (C := RX5) (T := TX5) (N := 14) hx hb hts in_X5 hown hK hP 0 rfl rfl 7 (by decide) lk_37 (fun _ h9 => h9) rfl dX5_addLetter_20 ?_
    refine lv_aload_n hx hb dX5_addLetter_23 rfl (lv_at hl 0 rfl) ?_
    refine va_get (D := D) (ci := 5) (v := .int letters) (C := RX5) (T := TX5) (N := 14) hx hb hts in_X5 hown hK hP 0 rfl rfl 10 (by decide) lk_56 (fun _ h9 => h9) rfl dX5_addLetter_24 ?_
    refine lv_iload_n hx hb dX5_addLetter_27 rfl (lv_at hl 2 rfl) ?_
    obtain ⟨hi, hf⟩ := gIx_some hf
    refine va_iast hx hb hK hP hD hS 2 1 rfl rfl hi dX5_addLetter_28 (fun H locs hP hD hS => ?_)
    have hP : va_P D vwCl (w_X5_addLetter kc a0 a1 a2 a3 a4 a5 a6 a7 a8 regions balloons letters loft start seed (upd weight (letters : Int32).toNatClampNeg x1) (upd priority (letters : Int32).toNatClampNeg x2)) H := hP
    have hD : va_D A (w_X5_addLetter kc a0 a1 a2 a3 a4 a5 a6 a7 a8 regions balloons letters loft start seed (upd weight (letters : Int32).toNatClampNeg x1) (upd priority (letters : Int32).toNatClampNeg x2)) := hD
    refine lv_aload_n hx hb dX5_addLetter_29 rfl (lv_at hl 0 rfl) ?_
    refine lv_dup hx hb dX5_addLetter_30 rfl ?_
    refine va_get (D := D) (ci := 5) (v := .int letters) (C := RX5) (T := TX5) (N := 14) hx hb hts in_X5 hown hK hP 0 rfl rfl 10 (by decide) lk_56 (fun _ h9 => h9) rfl dX5_addLetter_31 ?_
    refine lv_iconst (v := 1) hx hb dX5_addLetter_34 (by decide) ?_
    refine lv_iadd hx hb dX5_addLetter_35 ?_
    refine va_put (D := D) (ci := 5) (v := .int (letters + 1)) (ty := .int) (C := RX5) (T := TX5) (N := 14) hx hb hts in_X5 tyX5 tyX5_ok nmX5 hown hK hP hD hS 0 rfl rfl 10 (by decide) lk_56 (fun _ h9 => h9) rfl (by decide +kernel) rfl rfl (Nat.le_of_ble_eq_true rfl) dX5_addLetter_36 (fun H locs hP hD hS => ?_)
    have hP : va_P D vwCl (w_X5_addLetter kc a0 a1 a2 a3 a4 a5 a6 a7 a8 regions balloons (letters + 1) loft start seed (upd weight (letters : Int32).toNatClampNeg x1) (upd priority (letters : Int32).toNatClampNeg x2)) H := hP
    have hD : va_D A (w_X5_addLetter kc a0 a1 a2 a3 a4 a5 a6 a7 a8 regions balloons (letters + 1) loft start seed (upd weight (letters : Int32).toNatClampNeg x1) (upd priority (letters : Int32).toNatClampNeg x2)) := hD
    cases hf
    exact kR _ _ _ _ hP hD hS dX5_addLetter_39
abbrev w_X5_total (kc : Nat → ClassId) (a0 a1 a2 a3 a4 a5 a6 a7 a8 a9 : Nat) (n_y1 : Nat) (regions : Int32) (balloons : Int32) (letters : Int32) (loft : Int32) (start : Int32) (seed : Int32) (y1 : Nat → Int32) : va_W := [(a0, .inr (5, [.ref a1, .ref a2, .ref a3, .ref a4, .ref a5, .ref a6, .ref a7, .ref a8, .int regions, .int balloons, .int letters, .int loft, .int start, .int seed])), (a9, .inl (kc 1, n_y1, .inl y1))]
set_option maxHeartbeats 4000000 in
set_option maxRecDepth 100000 in
theorem c_X5_total (l : Launch) (D : va_G) (kc : Nat → ClassId) (N : Nat) (a0 a1 a2 a3 a4 a5 a6 a7 a8 a9 : Nat) (n_y1 : Nat) (regions : Int32) (balloons : Int32) (letters : Int32) (loft : Int32) (start : Int32) (seed : Int32) (y1 : Nat → Int32) (x2 : Int32) (r_ : Int32) (hf : f_X5_total N n_y1 letters y1 x2 = some r_) : MI l yX5_total wsX5_total ({ frames := 0, cells := 0, slots := 0, locals := 0 }) D kc [.ref a0, .ref a9, .int x2] (w_X5_total kc a0 a1 a2 a3 a4 a5 a6 a7 a8 a9 n_y1 regions balloons letters loft start seed y1) (w_X5_total kc a0 a1 a2 a3 a4 a5 a6 a7 a8 a9 n_y1 regions balloons letters loft start seed y1) r_ := by
  refine gM_I (cc := cX5_total) (maxL := 5) (by decide) rfl (Nat.le_of_ble_eq_true rfl) ?_
  intro p e s m below meth c A ls Q hx hb hml hown hts hN hK hP hD hA hl kR
  have hS : va_S A s.heap s.heap [] := va_S.rf
  have hl : lv_has ls 5 [(0, .ref a0), (1, .ref a9), (2, .int x2)] := hl
  have in_X5 : ∀ w ∈ u_ws RX5 TX5 14, w ∈ wsX5_total := by decide +kernel
  have lk_56 := hts (.fieldLink RX5 56 "BalloonMail$Siege" "letters" "I") (by decide +kernel)
  unfold f_X5_total at hf
  refine lv_iconst (v := 0) hx hb dX5_total_0 (by decide) ?_
  refine lv_istore_n (lv' := [(3, .int 0), (0, .ref a0), (1, .ref a9), (2, .int x2)]) hx hb dX5_total_1 rfl hl (by decide) rfl (fun ls hl => ?_)
  refine lv_iconst (v := 0) hx hb dX5_total_2 (by decide) ?_
  refine lv_istore (lv' := [(4, .int 0), (3, .int 0), (0, .ref a0), (1, .ref a9), (2, .int x2)]) hx hb dX5_total_3 hl (by decide) rfl (fun ls hl => ?_)
  have L5 : ∀ (n : Nat) (y4_5 : Int32) (y3_5 : Int32) (y4_5o : Int32) (y3_5o : Int32), f_X5_total_5 N letters y1 x2 n_y1 n y4_5 y3_5 = some (y4_5o, y3_5o) → (∀ (H : Heap) (locs : List Loc) (ls : Array Slot), va_P D vwCl (w_X5_total kc a0 a1 a2 a3 a4 a5 a6 a7 a8 a9 n_y1 regions balloons letters loft start seed y1) H → va_D A (w_X5_total kc a0 a1 a2 a3 a4 a5 a6 a7 a8 a9 n_y1 regions balloons letters loft start seed y1) → va_S A s.heap H locs → lv_has ls 5 [(0, .ref a0), (1, .ref a9), (2, .int x2), (3, .int y3_5o), (4, .int y4_5o)] → W p l e ({ frames := 0, cells := 0, slots := 0, locals := 0 }) s m (([.ref a0, .ref a9, .int x2] : List Value).toArray) below meth c H locs 0 0 Q (F0 m 44 ls [])) → ∀ (H : Heap) (locs : List Loc) (ls : Array Slot), va_P D vwCl (w_X5_total kc a0 a1 a2 a3 a4 a5 a6 a7 a8 a9 n_y1 regions balloons letters loft start seed y1) H → va_D A (w_X5_total kc a0 a1 a2 a3 a4 a5 a6 a7 a8 a9 n_y1 regions balloons letters loft start seed y1) → va_S A s.heap H locs → lv_has ls 5 [(0, .ref a0), (1, .ref a9), (2, .int x2), (3, .int y3_5), (4, .int y4_5)] → W p l e ({ frames := 0, cells := 0, slots := 0, locals := 0 }) s m (([.ref a0, .ref a9, .int x2] : List Value).toArray) below meth c H locs 0 0 Q (F0 m 5 ls []) := by
    intro n
    induction n with
    | zero => intro _ _ _ _ hf; rw [f_X5_total_5.eq_1] at hf; cases hf
    | succ n ih =>
      intro y4_5 y3_5 y4_5o y3_5o hf hk H locs ls hP hD hS hl
      rw [f_X5_total_5.eq_2] at hf
      refine lv_iload hx hb dX5_total_5 (lv_at hl 4 rfl) ?_
      refine lv_aload_n hx hb dX5_total_7 rfl (lv_at hl 0 rfl) ?_
      refine va_get (D := D) (ci := 5) (v := .int letters) (C := RX5) (T := TX5) (N := 14) hx hb hts in_X5 hown hK hP 0 rfl rfl 10 (by decide) lk_56 (fun _ h9 => h9) rfl dX5_total_8 ?_
      refine lv_icmp_ge (tgt := 44) hx hb dX5_total_11 (by decide) (fun hc => ?_) (fun hc => ?_)
      · have hf := o_t hc hf
        cases hf
        exact hk _ _ _ hP hD hS (lv_sub hl [0, 1, 2, 3, 4] rfl)
      · have hf := o_f hc hf
        refine lv_iload hx hb dX5_total_14 (lv_at hl 4 rfl) ?_
        refine lv_aload_n hx hb dX5_total_16 rfl (lv_at hl 1 rfl) ?_
        refine va_alen hx hb hK hP 1 1 rfl rfl (v := (nI n_y1)) (by rfl) dX5_total_17 ?_
        refine lv_icmp_ge (tgt := 44) hx hb dX5_total_18 (by decide) (fun hc => ?_) (fun hc => ?_)
        · have hf := o_t hc hf
          cases hf
          exact hk _ _ _ hP hD hS (lv_sub hl [0, 1, 2, 3, 4] rfl)
        · have hf := o_f hc hf
          refine lv_iload_n hx hb dX5_total_21 rfl (lv_at hl 2 rfl) ?_
          refine lv_iload hx hb dX5_total_22 (lv_at hl 4 rfl) ?_
          refine lv_ishr hx hb dX5_total_24 ?_
          refine lv_iconst (v := 1) hx hb dX5_total_25 (by decide) ?_
          refine lv_iand hx hb dX5_total_26 ?_
          refine lv_iconst (v := 1) hx hb dX5_total_27 (by decide) ?_
          refine lv_icmp_ne (tgt := 38) hx hb dX5_total_28 (by decide) (fun hc => ?_) (fun hc => ?_)
          · have hf := o_f hc hf
            refine lv_iinc (v := (y4_5 + 1)) (lv' := [(4, .int (y4_5 + 1)), (0, .ref a0), (1, .ref a9), (2, .int x2), (3, .int y3_5)]) hx hb dX5_total_38 hl (k := 4) rfl (by rfl) (by decide) rfl (fun ls hl => ?_)
            refine lv_goto (tgt := 5) hx hb dX5_total_41 (by decide) ?_
            exact ih _ _ _ _ hf hk _ _ _ hP hD hS (lv_sub hl [1, 2, 3, 4, 0] rfl)
          · have hf := o_t hc hf
            refine lv_iload_n hx hb dX5_total_31 rfl (lv_at hl 3 rfl) ?_
            refine lv_aload_n hx hb dX5_total_32 rfl (lv_at hl 1 rfl) ?_
            refine lv_iload hx hb dX5_total_33 (lv_at hl 4 rfl) ?_
            obtain ⟨hi, hf⟩ := gIx_some hf
            refine va_iald hx hb hK hP 1 1 rfl rfl hi dX5_total_35 ?_
            refine lv_iadd hx hb dX5_total_36 ?_
            refine lv_istore_n (lv' := [(3, .int (y3_5 + (y1 (y4_5 : Int32).toNatClampNeg))), (0, .ref a0), (1, .ref a9), (2, .int x2), (4, .int y4_5)]) hx hb dX5_total_37 rfl hl (by decide) rfl (fun ls hl => ?_)
            refine lv_iinc (v := (y4_5 + 1)) (lv' := [(4, .int (y4_5 + 1)), (3, .int (y3_5 + (y1 (y4_5 : Int32).toNatClampNeg))), (0, .ref a0), (1, .ref a9), (2, .int x2)]) hx hb dX5_total_38 hl (k := 4) rfl (by rfl) (by decide) rfl (fun ls hl => ?_)
            refine lv_goto (tgt := 5) hx hb dX5_total_41 (by decide) ?_
            exact ih _ _ _ _ hf hk _ _ _ hP hD hS (lv_sub hl [2, 3, 4, 1, 0] rfl)
  obtain ⟨y4_5o, y3_5o, hc, hf⟩ := ob2_some hf
  refine L5 N _ _ _ _ hc (fun H locs ls hP hD hS hl => ?_) _ _ _ hP hD hS (lv_sub hl [2, 3, 4, 1, 0] rfl)
  refine lv_iload_n hx hb dX5_total_44 rfl (lv_at hl 3 rfl) ?_
  cases hf
  exact kR _ _ _ _ hP hD hS dX5_total_45
