abbrev w_X9_balloonState (kc : Nat → ClassId) (a0 a1 a2 a3 a4 a5 a6 a7 a8 a9 a10 a11 a12 a13 a14 a15 a16 a17 a18 a19 a20 a21 a22 a23 a24 a25 a26 a27 a28 : Nat) (thrown : Int32) (loftSize : Int32) (startWind : Int32) (seed : Int32) (draftLoft : Int32) (draftStart : Int32) (draftSeed : Int32) (length : Int32) (textSize : Int32) (start : Int32) (next_ : Int32) (token : Int32) (value : Int32) (error : Int32) (errorAt : Int32) (number : Int32) (undos : Int32) (balloons : Nat → Int32) (now : Nat → Int32) : va_W := [(a0, .inr (9, [.int thrown, .ref a1, .ref a2, .ref a3, .ref a4, .ref a5, .ref a6, .ref a7, .ref a8, .ref a9, .ref a10, .ref a11, .ref a12, .ref a13, .ref a14, .ref a15, .ref a16, .ref a17, .ref a18, .ref a19, .int loftSize, .int startWind, .int seed, .int draftLoft, .int draftStart, .int draftSeed, .ref a20, .int length, .int textSize, .int start, .int next_, .int token, .int value, .int error, .int errorAt, .int number, .ref a21, .ref a22, .ref a23, .ref a24, .ref a25, .int undos, .ref a26, .ref a27, .ref a28])), (a14, .inl (kc 1, 2, .inl balloons)), (a1, .inl (kc 1, 213, .inl now))]
set_option maxHeartbeats 4000000 in
set_option maxRecDepth 100000 in
theorem c_X9_balloonState (l : Launch) (D : va_G) (kc : Nat → ClassId) (N : Nat) (a0 a1 a2 a3 a4 a5 a6 a7 a8 a9 a10 a11 a12 a13 a14 a15 a16 a17 a18 a19 a20 a21 a22 a23 a24 a25 a26 a27 a28 : Nat) (thrown : Int32) (loftSize : Int32) (startWind : Int32) (seed : Int32) (draftLoft : Int32) (draftStart : Int32) (draftSeed : Int32) (length : Int32) (textSize : Int32) (start : Int32) (next_ : Int32) (token : Int32) (value : Int32) (error : Int32) (errorAt : Int32) (number : Int32) (undos : Int32) (balloons : Nat → Int32) (now : Nat → Int32) (x1 : Int32) (r_ : Int32) (thrown' : Int32) (hf : f_X9_balloonState N balloons now x1 = some (r_, thrown')) : MI l yX9_balloonState wsX9_balloonState ({ frames := 2, cells := 0, slots := 0, locals := 43 }) D kc [.ref a0, .int x1] (w_X9_balloonState kc a0 a1 a2 a3 a4 a5 a6 a7 a8 a9 a10 a11 a12 a13 a14 a15 a16 a17 a18 a19 a20 a21 a22 a23 a24 a25 a26 a27 a28 thrown loftSize startWind seed draftLoft draftStart draftSeed length textSize start next_ token value error errorAt number undos balloons now) (w_X9_balloonState kc a0 a1 a2 a3 a4 a5 a6 a7 a8 a9 a10 a11 a12 a13 a14 a15 a16 a17 a18 a19 a20 a21 a22 a23 a24 a25 a26 a27 a28 thrown' loftSize startWind seed draftLoft draftStart draftSeed length textSize start next_ token value error errorAt number undos balloons now) r_ := by
  refine gM_I (cc := cX9_balloonState) (maxL := 2) (by decide) rfl (Nat.le_of_ble_eq_true rfl) ?_
  intro p e s m below meth c A ls Q hx hb hml hown hts hN hK hP hD hA hl kR
  have hS : va_S A s.heap s.heap [] := va_S.rf
  have hl : lv_has ls 2 [(0, .ref a0), (1, .int x1)] := hl
  have in_X9 : ∀ w ∈ u_ws RX9 TX9 45, w ∈ wsX9_balloonState := by decide +kernel
  have lk_1 := hts (.fieldLink RX9 1 "BalloonMailModel" "thrown" "I") (by decide +kernel)
  have lk_13 := hts (.fieldLink RX9 13 "BalloonMailModel" "now" "[I") (by decide +kernel)
  unfold f_X9_balloonState at hf
  refine lv_aload_n hx hb dX9_balloonState_0 rfl (lv_at hl 0 rfl) ?_
  refine lv_iconst (v := 0) hx hb dX9_balloonState_1 (by decide) ?_
  refine va_put (D := D) (ci := 9) (v := .int 0) (ty := .int) (C := RX9) (T := TX9) (N := 45) hx hb hts in_X9 tyX9 tyX9_ok nmX9 hown hK hP hD hS 0 rfl rfl 0 (by decide) lk_1 (fun _ h9 => h9) rfl (by decide +kernel) rfl rfl (Nat.le_of_ble_eq_true rfl) dX9_balloonState_2 (fun H locs hP hD hS => ?_)
  have hP : va_P D vwCl (w_X9_balloonState kc a0 a1 a2 a3 a4 a5 a6 a7 a8 a9 a10 a11 a12 a13 a14 a15 a16 a17 a18 a19 a20 a21 a22 a23 a24 a25 a26 a27 a28 0 loftSize startWind seed draftLoft draftStart draftSeed length textSize start next_ token value error errorAt number undos balloons now) H := hP
  have hD : va_D A (w_X9_balloonState kc a0 a1 a2 a3 a4 a5 a6 a7 a8 a9 a10 a11 a12 a13 a14 a15 a16 a17 a18 a19 a20 a21 a22 a23 a24 a25 a26 a27 a28 0 loftSize startWind seed draftLoft draftStart draftSeed length textSize start next_ token value error errorAt number undos balloons now) := hD
  refine lv_aload_n hx hb dX9_balloonState_5 rfl (lv_at hl 0 rfl) ?_
  refine lv_iload_n hx hb dX9_balloonState_6 rfl (lv_at hl 1 rfl) ?_
  obtain ⟨r_1, hc, hf⟩ := ob1_some hf
  refine g_VZ (As := [.int x1]) (rest := []) (ws' := (w_X9_balloonState kc a0 a1 a2 a3 a4 a5 a6 a7 a8 a9 a10 a11 a12 a13 a14 a15 a16 a17 a18 a19 a20 a21 a22 a23 a24 a25 a26 a27 a28 0 loftSize startWind seed draftLoft draftStart draftSeed length textSize start next_ token value error errorAt number undos balloons now)) ⟨hx, hb, hml, hown, hts⟩ hN hK hP hD hS hA (c_X9_isBalloon l D kc N a0 a1 a2 a3 a4 a5 a6 a7 a8 a9 a10 a11 a12 a13 a14 a15 a16 a17 a18 a19 a20 a21 a22 a23 a24 a25 a26 a27 a28 0 loftSize startWind seed draftLoft draftStart draftSeed length textSize start next_ token value error errorAt number undos balloons x1 r_1 hc) (cwV 1 hts gX9_balloonState_X9_isBalloon rfl rfl rfl (by decide +kernel) ⟨Nat.le_of_ble_eq_true rfl, Nat.le_of_ble_eq_true rfl⟩) [0, 1] [2] [1, 2, 0] (by exact ⟨rfl, rfl, by decide, rfl⟩) 0 9 rfl rfl rfl rfl hl.1 rfl (Nat.le_of_ble_eq_true rfl) dX9_balloonState_7 ⟨Nat.le_refl _, Nat.le_refl _⟩ (fun H locs hz hP hD hS => ?_)
  have hz_2 := hz
  refine lv_if_eq (tgt := 24) hx hb dX9_balloonState_10 (by decide) (fun hc => ?_) (fun hc => ?_)
  · have hf := o_t hc hf
    refine lv_iconst (v := (-1)) hx hb dX9_balloonState_24 (by decide) ?_
    cases hf
    exact kR _ _ _ _ hP hD hS dX9_balloonState_25
  · have hf := o_f hc hf
    refine lv_aload_n hx hb dX9_balloonState_13 rfl (lv_at hl 0 rfl) ?_
    refine va_get (D := D) (ci := 9) (v := .ref a1) (C := RX9) (T := TX9) (N := 45) hx hb hts in_X9 hown hK hP 0 rfl rfl 1 (by decide) lk_13 (fun _ h9 => h9) rfl dX9_balloonState_14 ?_
    refine lv_iconst (v := 5) hx hb dX9_balloonState_17 (by decide) ?_
    refine lv_iload_n hx hb dX9_balloonState_18 rfl (lv_at hl 1 rfl) ?_
    refine lv_iadd hx hb dX9_balloonState_19 ?_
    obtain ⟨hi, hf⟩ := gIx_some hf
    refine va_iald hx hb hK hP 2 1 rfl rfl hi dX9_balloonState_20 ?_
    refine lv_goto (tgt := 25) hx hb dX9_balloonState_21 (by decide) ?_
    cases hf
    exact kR _ _ _ _ hP hD hS dX9_balloonState_25
abbrev w_X9_balloonRegion (kc : Nat → ClassId) (a0 a1 a2 a3 a4 a5 a6 a7 a8 a9 a10 a11 a12 a13 a14 a15 a16 a17 a18 a19 a20 a21 a22 a23 a24 a25 a26 a27 a28 : Nat) (thrown : Int32) (loftSize : Int32) (startWind : Int32) (seed : Int32) (draftLoft : Int32) (draftStart : Int32) (draftSeed : Int32) (length : Int32) (textSize : Int32) (start : Int32) (next_ : Int32) (token : Int32) (value : Int32) (error : Int32) (errorAt : Int32) (number : Int32) (undos : Int32) (balloons : Nat → Int32) (now : Nat → Int32) : va_W := [(a0, .inr (9, [.int thrown, .ref a1, .ref a2, .ref a3, .ref a4, .ref a5, .ref a6, .ref a7, .ref a8, .ref a9, .ref a10, .ref a11, .ref a12, .ref a13, .ref a14, .ref a15, .ref a16, .ref a17, .ref a18, .ref a19, .int loftSize, .int startWind, .int seed, .int draftLoft, .int draftStart, .int draftSeed, .ref a20, .int length, .int textSize, .int start, .int next_, .int token, .int value, .int error, .int errorAt, .int number, .ref a21, .ref a22, .ref a23, .ref a24, .ref a25, .int undos, .ref a26, .ref a27, .ref a28])), (a14, .inl (kc 1, 2, .inl balloons)), (a1, .inl (kc 1, 213, .inl now))]
set_option maxHeartbeats 4000000 in
set_option maxRecDepth 100000 in
theorem c_X9_balloonRegion (l : Launch) (D : va_G) (kc : Nat → ClassId) (N : Nat) (a0 a1 a2 a3 a4 a5 a6 a7 a8 a9 a10 a11 a12 a13 a14 a15 a16 a17 a18 a19 a20 a21 a22 a23 a24 a25 a26 a27 a28 : Nat) (thrown : Int32) (loftSize : Int32) (startWind : Int32) (seed : Int32) (draftLoft : Int32) (draftStart : Int32) (draftSeed : Int32) (length : Int32) (textSize : Int32) (start : Int32) (next_ : Int32) (token : Int32) (value : Int32) (error : Int32) (errorAt : Int32) (number : Int32) (undos : Int32) (balloons : Nat → Int32) (now : Nat → Int32) (x1 : Int32) (r_ : Int32) (thrown' : Int32) (hf : f_X9_balloonRegion N balloons now x1 = some (r_, thrown')) : MI l yX9_balloonRegion wsX9_balloonRegion ({ frames := 2, cells := 0, slots := 0, locals := 43 }) D kc [.ref a0, .int x1] (w_X9_balloonRegion kc a0 a1 a2 a3 a4 a5 a6 a7 a8 a9 a10 a11 a12 a13 a14 a15 a16 a17 a18 a19 a20 a21 a22 a23 a24 a25 a26 a27 a28 thrown loftSize startWind seed draftLoft draftStart draftSeed length textSize start next_ token value error errorAt number undos balloons now) (w_X9_balloonRegion kc a0 a1 a2 a3 a4 a5 a6 a7 a8 a9 a10 a11 a12 a13 a14 a15 a16 a17 a18 a19 a20 a21 a22 a23 a24 a25 a26 a27 a28 thrown' loftSize startWind seed draftLoft draftStart draftSeed length textSize start next_ token value error errorAt number undos balloons now) r_ := by
  refine gM_I (cc := cX9_balloonRegion) (maxL := 2) (by decide) rfl (Nat.le_of_ble_eq_true rfl) ?_
  intro p e s m below meth c A ls Q hx hb hml hown hts hN hK hP hD hA hl kR
  have hS : va_S A s.heap s.heap [] := va_S.rf
  have hl : lv_has ls 2 [(0, .ref a0), (1, .int x1)] := hl
  have in_X9 : ∀ w ∈ u_ws RX9 TX9 45, w ∈ wsX9_balloonRegion := by decide +kernel
  have lk_1 := hts (.fieldLink RX9 1 "BalloonMailModel" "thrown" "I") (by decide +kernel)
  have lk_13 := hts (.fieldLink RX9 13 "BalloonMailModel" "now" "[I") (by decide +kernel)
  unfold f_X9_balloonRegion at hf
  refine lv_aload_n hx hb dX9_balloonRegion_0 rfl (lv_at hl 0 rfl) ?_
  refine lv_iconst (v := 0) hx hb dX9_balloonRegion_1 (by decide) ?_
  refine va_put (D := D) (ci := 9) (v := .int 0) (ty := .int) (C := RX9) (T := TX9) (N := 45) hx hb hts in_X9 tyX9 tyX9_ok nmX9 hown hK hP hD hS 0 rfl rfl 0 (by decide) lk_1 (fun _ h9 => h9) rfl (by decide +kernel) rfl rfl (Nat.le_of_ble_eq_true rfl) dX9_balloonRegion_2 (fun H locs hP hD hS => ?_)
  have hP : va_P D vwCl (w_X9_balloonRegion kc a0 a1 a2 a3 a4 a5 a6 a7 a8 a9 a10 a11 a12 a13 a14 a15 a16 a17 a18 a19 a20 a21 a22 a23 a24 a25 a26 a27 a28 0 loftSize startWind seed draftLoft draftStart draftSeed length textSize start next_ token value error errorAt number undos balloons now) H := hP
  have hD : va_D A (w_X9_balloonRegion kc a0 a1 a2 a3 a4 a5 a6 a7 a8 a9 a10 a11 a12 a13 a14 a15 a16 a17 a18 a19 a20 a21 a22 a23 a24 a25 a26 a27 a28 0 loftSize startWind seed draftLoft draftStart draftSeed length textSize start next_ token value error errorAt number undos balloons now) := hD
  refine lv_aload_n hx hb dX9_balloonRegion_5 rfl (lv_at hl 0 rfl) ?_
  refine lv_iload_n hx hb dX9_balloonRegion_6 rfl (lv_at hl 1 rfl) ?_
  obtain ⟨r_1, hc, hf⟩ := ob1_some hf
  refine g_VZ (As := [.int x1]) (rest := []) (ws' := (w_X9_balloonRegion kc a0 a1 a2 a3 a4 a5 a6 a7 a8 a9 a10 a11 a12 a13 a14 a15 a16 a17 a18 a19 a20 a21 a22 a23 a24 a25 a26 a27 a28 0 loftSize startWind seed draftLoft draftStart draftSeed length textSize start next_ token value error errorAt number undos balloons now)) ⟨hx, hb, hml, hown, hts⟩ hN hK hP hD hS hA (c_X9_isBalloon l D kc N a0 a1 a2 a3 a4 a5 a6 a7 a8 a9 a10 a11 a12 a13 a14 a15 a16 a17 a18 a19 a20 a21 a22 a23 a24 a25 a26 a27 a28 0 loftSize startWind seed draftLoft draftStart draftSeed length textSize start next_ token value error errorAt number undos balloons x1 r_1 hc) (cwV 1 hts gX9_balloonRegion_X9_isBalloon rfl rfl rfl (by decide +kernel) ⟨Nat.le_of_ble_eq_true rfl, Nat.le_of_ble_eq_true rfl⟩) [0, 1] [2] [1, 2, 0] (by exact ⟨rfl, rfl, by decide, rfl⟩) 0 9 rfl rfl rfl rfl hl.1 rfl (Nat.le_of_ble_eq_true rfl) dX9_balloonRegion_7 ⟨Nat.le_refl _, Nat.le_refl _⟩ (fun H locs hz hP hD hS => ?_)
  have hz_2 := hz
  refine lv_if_eq (tgt := 25) hx hb dX9_balloonRegion_10 (by decide) (fun hc => ?_) (fun hc => ?_)
  · have hf := o_t hc hf
    refine lv_iconst (v := (-1)) hx hb dX9_balloonRegion_25 (by decide) ?_
    cases hf
    exact kR _ _ _ _ hP hD hS dX9_balloonRegion_26
  · have hf := o_f hc hf
    refine lv_aload_n hx hb dX9_balloonRegion_13 rfl (lv_at hl 0 rfl) ?_
    refine va_get (D := D) (ci := 9) (v := .ref a1) (C := RX9) (T := TX9) (N := 45) hx hb hts in_X9 hown hK hP 0 rfl rfl 1 (by decide) lk_13 (fun _ h9 => h9) rfl dX9_balloonRegion_14 ?_
    refine lv_bipush (v := 15) hx hb dX9_balloonRegion_17 (by decide) ?_
    refine lv_iload_n hx hb dX9_balloonRegion_19 rfl (lv_at hl 1 rfl) ?_
    refine lv_iadd hx hb dX9_balloonRegion_20 ?_
    obtain ⟨hi, hf⟩ := gIx_some hf
    refine va_iald hx hb hK hP 2 1 rfl rfl hi dX9_balloonRegion_21 ?_
    refine lv_goto (tgt := 26) hx hb dX9_balloonRegion_22 (by decide) ?_
    cases hf
    exact kR _ _ _ _ hP hD hS dX9_balloonRegion_26
abbrev w_X9_cargo (kc : Nat → ClassId) (a0 a1 a2 a3 a4 a5 a6 a7 a8 a9 a10 a11 a12 a13 a14 a15 a16 a17 a18 a19 a20 a21 a22 a23 a24 a25 a26 a27 a28 : Nat) (thrown : Int32) (loftSize : Int32) (startWind : Int32) (seed : Int32) (draftLoft : Int32) (draftStart : Int32) (draftSeed : Int32) (length : Int32) (textSize : Int32) (start : Int32) (next_ : Int32) (token : Int32) (value : Int32) (error : Int32) (errorAt : Int32) (number : Int32) (undos : Int32) (balloons : Nat → Int32) (now : Nat → Int32) : va_W := [(a0, .inr (9, [.int thrown, .ref a1, .ref a2, .ref a3, .ref a4, .ref a5, .ref a6, .ref a7, .ref a8, .ref a9, .ref a10, .ref a11, .ref a12, .ref a13, .ref a14, .ref a15, .ref a16, .ref a17, .ref a18, .ref a19, .int loftSize, .int startWind, .int seed, .int draftLoft, .int draftStart, .int draftSeed, .ref a20, .int length, .int textSize, .int start, .int next_, .int token, .int value, .int error, .int errorAt, .int number, .ref a21, .ref a22, .ref a23, .ref a24, .ref a25, .int undos, .ref a26, .ref a27, .ref a28])), (a14, .inl (kc 1, 2, .inl balloons)), (a1, .inl (kc 1, 213, .inl now))]
set_option maxHeartbeats 4000000 in
set_option maxRecDepth 100000 in
theorem c_X9_cargo (l : Launch) (D : va_G) (kc : Nat → ClassId) (N : Nat) (a0 a1 a2 a3 a4 a5 a6 a7 a8 a9 a10 a11 a12 a13 a14 a15 a16 a17 a18 a19 a20 a21 a22 a23 a24 a25 a26 a27 a28 : Nat) (thrown : Int32) (loftSize : Int32) (startWind : Int32) (seed : Int32) (draftLoft : Int32) (draftStart : Int32) (draftSeed : Int32) (length : Int32) (textSize : Int32) (start : Int32) (next_ : Int32) (token : Int32) (value : Int32) (error : Int32) (errorAt : Int32) (number : Int32) (undos : Int32) (balloons : Nat → Int32) (now : Nat → Int32) (x1 : Int32) (r_ : Int32) (thrown' : Int32) (hf : f_X9_cargo N balloons now x1 = some (r_, thrown')) : MI l yX9_cargo wsX9_cargo ({ frames := 2, cells := 0, slots := 0, locals := 43 }) D kc [.ref a0, .int x1] (w_X9_cargo kc a0 a1 a2 a3 a4 a5 a6 a7 a8 a9 a10 a11 a12 a13 a14 a15 a16 a17 a18 a19 a20 a21 a22 a23 a24 a25 a26 a27 a28 thrown loftSize startWind seed draftLoft draftStart draftSeed length textSize start next_ token value error errorAt number undos balloons now) (w_X9_cargo kc a0 a1 a2 a3 a4 a5 a6 a7 a8 a9 a10 a11 a12 a13 a14 a15 a16 a17 a18 a19 a20 a21 a22 a23 a24 a25 a26 a27 a28 thrown' loftSize startWind seed draftLoft draftStart draftSeed length textSize start next_ token value error errorAt number undos balloons now) r_ := by
  refine gM_I (cc := cX9_cargo) (maxL := 2) (by decide) rfl (Nat.le_of_ble_eq_true rfl) ?_
  intro p e s m below meth c A ls Q hx hb hml hown hts hN hK hP hD hA hl kR
  have hS : va_S A s.heap s.heap [] := va_S.rf
  have hl : lv_has ls 2 [(0, .ref a0), (1, .int x1)] := hl
  have in_X9 : ∀ w ∈ u_ws RX9 TX9 45, w ∈ wsX9_cargo := by decide +kernel
  have lk_1 := hts (.fieldLink RX9 1 "BalloonMailModel" "thrown" "I") (by decide +kernel)
  have lk_13 := hts (.fieldLink RX9 13 "BalloonMailModel" "now" "[I") (by decide +kernel)
  unfold f_X9_cargo at hf
  refine lv_aload_n hx hb dX9_cargo_0 rfl (lv_at hl 0 rfl) ?_
  refine lv_iconst (v := 0) hx hb dX9_cargo_1 (by decide) ?_
  refine va_put (D := D) (ci := 9) (v := .int 0) (ty := .int) (C := RX9) (T := TX9) (N := 45) hx hb hts in_X9 tyX9 tyX9_ok nmX9 hown hK hP hD hS 0 rfl rfl 0 (by decide) lk_1 (fun _ h9 => h9) rfl (by decide +kernel) rfl rfl (Nat.le_of_ble_eq_true rfl) dX9_cargo_2 (fun H locs hP hD hS => ?_)
  have hP : va_P D vwCl (w_X9_cargo kc a0 a1 a2 a3 a4 a5 a6 a7 a8 a9 a10 a11 a12 a13 a14 a15 a16 a17 a18 a19 a20 a21 a22 a23 a24 a25 a26 a27 a28 0 loftSize startWind seed draftLoft draftStart draftSeed length textSize start next_ token value error errorAt number undos balloons now) H := hP
  have hD : va_D A (w_X9_cargo kc a0 a1 a2 a3 a4 a5 a6 a7 a8 a9 a10 a11 a12 a13 a14 a15 a16 a17 a18 a19 a20 a21 a22 a23 a24 a25 a26 a27 a28 0 loftSize startWind seed draftLoft draftStart draftSeed length textSize start next_ token value error errorAt number undos balloons now) := hD
  refine lv_aload_n hx hb dX9_cargo_5 rfl (lv_at hl 0 rfl) ?_
  refine lv_iload_n hx hb dX9_cargo_6 rfl (lv_at hl 1 rfl) ?_
  obtain ⟨r_1, hc, hf⟩ := ob1_some hf
  refine g_VZ (As := [.int x1]) (rest := []) (ws' := (w_X9_cargo kc a0 a1 a2 a3 a4 a5 a6 a7 a8 a9 a10 a11 a12 a13 a14 a15 a16 a17 a18 a19 a20 a21 a22 a23 a24 a25 a26 a27 a28 0 loftSize startWind seed draftLoft draftStart draftSeed length textSize start next_ token value error errorAt number undos balloons now)) ⟨hx, hb, hml, hown, hts⟩ hN hK hP hD hS hA (c_X9_isBalloon l D kc N a0 a1 a2 a3 a4 a5 a6 a7 a8 a9 a10 a11 a12 a13 a14 a15 a16 a17 a18 a19 a20 a21 a22 a23 a24 a25 a26 a27 a28 0 loftSize startWind seed draftLoft draftStart draftSeed length textSize start next_ token value error errorAt number undos balloons x1 r_1 hc) (cwV 1 hts gX9_cargo_X9_isBalloon rfl rfl rfl (by decide +kernel) ⟨Nat.le_of_ble_eq_true rfl, Nat.le_of_ble_eq_true rfl⟩) [0, 1] [2] [1, 2, 0] (by exact ⟨rfl, rfl, by decide, rfl⟩) 0 9 rfl rfl rfl rfl hl.1 rfl (Nat.le_of_ble_eq_true rfl) dX9_cargo_7 ⟨Nat.le_refl _, Nat.le_refl _⟩ (fun H locs hz hP hD hS => ?_)
  have hz_2 := hz
  refine lv_if_eq (tgt := 25) hx hb dX9_cargo_10 (by decide) (fun hc => ?_) (fun hc => ?_)
  · have hf := o_t hc hf
    refine lv_iconst (v := (-1)) hx hb dX9_cargo_25 (by decide) ?_
    cases hf
    exact kR _ _ _ _ hP hD hS dX9_cargo_26
  · have hf := o_f hc hf
    refine lv_aload_n hx hb dX9_cargo_13 rfl (lv_at hl 0 rfl) ?_
    refine va_get (D := D) (ci := 9) (v := .ref a1) (C := RX9) (T := TX9) (N := 45) hx hb hts in_X9 hown hK hP 0 rfl rfl 1 (by decide) lk_13 (fun _ h9 => h9) rfl dX9_cargo_14 ?_
    refine lv_bipush (v := 25) hx hb dX9_cargo_17 (by decide) ?_
    refine lv_iload_n hx hb dX9_cargo_19 rfl (lv_at hl 1 rfl) ?_
    refine lv_iadd hx hb dX9_cargo_20 ?_
    obtain ⟨hi, hf⟩ := gIx_some hf
    refine va_iald hx hb hK hP 2 1 rfl rfl hi dX9_cargo_21 ?_
    refine lv_goto (tgt := 26) hx hb dX9_cargo_22 (by decide) ?_
    cases hf
    exact kR _ _ _ _ hP hD hS dX9_cargo_26
abbrev w_X9_letterState (kc : Nat → ClassId) (a0 a1 a2 a3 a4 a5 a6 a7 a8 a9 a10 a11 a12 a13 a14 a15 a16 a17 a18 a19 a20 a21 a22 a23 a24 a25 a26 a27 a28 : Nat) (thrown : Int32) (loftSize : Int32) (startWind : Int32) (seed : Int32) (draftLoft : Int32) (draftStart : Int32) (draftSeed : Int32) (length : Int32) (textSize : Int32) (start : Int32) (next_ : Int32) (token : Int32) (value : Int32) (error : Int32) (errorAt : Int32) (number : Int32) (undos : Int32) (letters : Nat → Int32) (now : Nat → Int32) : va_W := [(a0, .inr (9, [.int thrown, .ref a1, .ref a2, .ref a3, .ref a4, .ref a5, .ref a6, .ref a7, .ref a8, .ref a9, .ref a10, .ref a11, .ref a12, .ref a13, .ref a14, .ref a15, .ref a16, .ref a17, .ref a18, .ref a19, .int loftSize, .int startWind, .int seed, .int draftLoft, .int draftStart, .int draftSeed, .ref a20, .int length, .int textSize, .int start, .int next_, .int token, .int value, .int error, .int errorAt, .int number, .ref a21, .ref a22, .ref a23, .ref a24, .ref a25, .int undos, .ref a26, .ref a27, .ref a28])), (a17, .inl (kc 1, 2, .inl letters)), (a1, .inl (kc 1, 213, .inl now))]
set_option maxHeartbeats 4000000 in
set_option maxRecDepth 100000 in
theorem c_X9_letterState (l : Launch) (D : va_G) (kc : Nat → ClassId) (N : Nat) (a0 a1 a2 a3 a4 a5 a6 a7 a8 a9 a10 a11 a12 a13 a14 a15 a16 a17 a18 a19 a20 a21 a22 a23 a24 a25 a26 a27 a28 : Nat) (thrown : Int32) (loftSize : Int32) (startWind : Int32) (seed : Int32) (draftLoft : Int32) (draftStart : Int32) (draftSeed : Int32) (length : Int32) (textSize : Int32) (start : Int32) (next_ : Int32) (token : Int32) (value : Int32) (error : Int32) (errorAt : Int32) (number : Int32) (undos : Int32) (letters : Nat → Int32) (now : Nat → Int32) (x1 : Int32) (r_ : Int32) (thrown' : Int32) (hf : f_X9_letterState N letters now x1 = some (r_, thrown')) : MI l yX9_letterState wsX9_letterState ({ frames := 2, cells := 0, slots := 0, locals := 43 }) D kc [.ref a0, .int x1] (w_X9_letterState kc a0 a1 a2 a3 a4 a5 a6 a7 a8 a9 a10 a11 a12 a13 a14 a15 a16 a17 a18 a19 a20 a21 a22 a23 a24 a25 a26 a27 a28 thrown loftSize startWind seed draftLoft draftStart draftSeed length textSize start next_ token value error errorAt number undos letters now) (w_X9_letterState kc a0 a1 a2 a3 a4 a5 a6 a7 a8 a9 a10 a11 a12 a13 a14 a15 a16 a17 a18 a19 a20 a21 a22 a23 a24 a25 a26 a27 a28 thrown' loftSize startWind seed draftLoft draftStart draftSeed length textSize start next_ token value error errorAt number undos letters now) r_ := by
  refine gM_I (cc := cX9_letterState) (maxL := 2) (by decide) rfl (Nat.le_of_ble_eq_true rfl) ?_
  intro p e s m below meth c A ls Q hx hb hml hown hts hN hK hP hD hA hl kR
  have hS : va_S A s.heap s.heap [] := va_S.rf
  have hl : lv_has ls 2 [(0, .ref a0), (1, .int x1)] := hl
  have in_X9 : ∀ w ∈ u_ws RX9 TX9 45, w ∈ wsX9_letterState := by decide +kernel
  have lk_1 := hts (.fieldLink RX9 1 "BalloonMailModel" "thrown" "I") (by decide +kernel)
  have lk_13 := hts (.fieldLink RX9 13 "BalloonMailModel" "now" "[I") (by decide +kernel)
  unfold f_X9_letterState at hf
  refine lv_aload_n hx hb dX9_letterState_0 rfl (lv_at hl 0 rfl) ?_
  refine lv_iconst (v := 0) hx hb dX9_letterState_1 (by decide) ?_
  refine va_put (D := D) (ci := 9) (v := .int 0) (ty := .int) (C := RX9) (T := TX9) (N := 45) hx hb hts in_X9 tyX9 tyX9_ok nmX9 hown hK hP hD hS 0 rfl rfl 0 (by decide) lk_1 (fun _ h9 => h9) rfl (by decide +kernel) rfl rfl (Nat.le_of_ble_eq_true rfl) dX9_letterState_2 (fun H locs hP hD hS => ?_)
  have hP : va_P D vwCl (w_X9_letterState kc a0 a1 a2 a3 a4 a5 a6 a7 a8 a9 a10 a11 a12 a13 a14 a15 a16 a17 a18 a19 a20 a21 a22 a23 a24 a25 a26 a27 a28 0 loftSize startWind seed draftLoft draftStart draftSeed length textSize start next_ token value error errorAt number undos letters now) H := hP
  have hD : va_D A (w_X9_letterState kc a0 a1 a2 a3 a4 a5 a6 a7 a8 a9 a10 a11 a12 a13 a14 a15 a16 a17 a18 a19 a20 a21 a22 a23 a24 a25 a26 a27 a28 0 loftSize startWind seed draftLoft draftStart draftSeed length textSize start next_ token value error errorAt number undos letters now) := hD
  refine lv_aload_n hx hb dX9_letterState_5 rfl (lv_at hl 0 rfl) ?_
  refine lv_iload_n hx hb dX9_letterState_6 rfl (lv_at hl 1 rfl) ?_
  obtain ⟨r_1, hc, hf⟩ := ob1_some hf
  refine g_VZ (As := [.int x1]) (rest := []) (ws' := (w_X9_letterState kc a0 a1 a2 a3 a4 a5 a6 a7 a8 a9 a10 a11 a12 a13 a14 a15 a16 a17 a18 a19 a20 a21 a22 a23 a24 a25 a26 a27 a28 0 loftSize startWind seed draftLoft draftStart draftSeed length textSize start next_ token value error errorAt number undos letters now)) ⟨hx, hb, hml, hown, hts⟩ hN hK hP hD hS hA (c_X9_isLetter l D kc N a0 a1 a2 a3 a4 a5 a6 a7 a8 a9 a10 a11 a12 a13 a14 a15 a16 a17 a18 a19 a20 a21 a22 a23 a24 a25 a26 a27 a28 0 loftSize startWind seed draftLoft draftStart draftSeed length textSize start next_ token value error errorAt number undos letters x1 r_1 hc) (cwV 1 hts gX9_letterState_X9_isLetter rfl rfl rfl (by decide +kernel) ⟨Nat.le_of_ble_eq_true rfl, Nat.le_of_ble_eq_true rfl⟩) [0, 1] [2] [1, 2, 0] (by exact ⟨rfl, rfl, by decide, rfl⟩) 0 9 rfl rfl rfl rfl hl.1 rfl (Nat.le_of_ble_eq_true rfl) dX9_letterState_7 ⟨Nat.le_refl _, Nat.le_refl _⟩ (fun H locs hz hP hD hS => ?_)
  have hz_2 := hz
  refine lv_if_eq (tgt := 25) hx hb dX9_letterState_10 (by decide) (fun hc => ?_) (fun hc => ?_)
  · have hf := o_t hc hf
    refine lv_iconst (v := (-1)) hx hb dX9_letterState_25 (by decide) ?_
    cases hf
    exact kR _ _ _ _ hP hD hS dX9_letterState_26
  · have hf := o_f hc hf
    refine lv_aload_n hx hb dX9_letterState_13 rfl (lv_at hl 0 rfl) ?_
    refine va_get (D := D) (ci := 9) (v := .ref a1) (C := RX9) (T := TX9) (N := 45) hx hb hts in_X9 hown hK hP 0 rfl rfl 1 (by decide) lk_13 (fun _ h9 => h9) rfl dX9_letterState_14 ?_
    refine lv_bipush (v := 35) hx hb dX9_letterState_17 (by decide) ?_
    refine lv_iload_n hx hb dX9_letterState_19 rfl (lv_at hl 1 rfl) ?_
    refine lv_iadd hx hb dX9_letterState_20 ?_
    obtain ⟨hi, hf⟩ := gIx_some hf
    refine va_iald hx hb hK hP 2 1 rfl rfl hi dX9_letterState_21 ?_
    refine lv_goto (tgt := 26) hx hb dX9_letterState_22 (by decide) ?_
    cases hf
    exact kR _ _ _ _ hP hD hS dX9_letterState_26
abbrev w_X9_answerDay (kc : Nat → ClassId) (a0 a1 a2 a3 a4 a5 a6 a7 a8 a9 a10 a11 a12 a13 a14 a15 a16 a17 a18 a19 a20 a21 a22 a23 a24 a25 a26 a27 a28 : Nat) (thrown : Int32) (loftSize : Int32) (startWind : Int32) (seed : Int32) (draftLoft : Int32) (draftStart : Int32) (draftSeed : Int32) (length : Int32) (textSize : Int32) (start : Int32) (next_ : Int32) (token : Int32) (value : Int32) (error : Int32) (errorAt : Int32) (number : Int32) (undos : Int32) (letters : Nat → Int32) (now : Nat → Int32) : va_W := [(a0, .inr (9, [.int thrown, .ref a1, .ref a2, .ref a3, .ref a4, .ref a5, .ref a6, .ref a7, .ref a8, .ref a9, .ref a10, .ref a11, .ref a12, .ref a13, .ref a14, .ref a15, .ref a16, .ref a17, .ref a18, .ref a19, .int loftSize, .int startWind, .int seed, .int draftLoft, .int draftStart, .int draftSeed, .ref a20, .int length, .int textSize, .int start, .int next_, .int token, .int value, .int error, .int errorAt, .int number, .ref a21, .ref a22, .ref a23, .ref a24, .ref a25, .int undos, .ref a26, .ref a27, .ref a28])), (a17, .inl (kc 1, 2, .inl letters)), (a1, .inl (kc 1, 213, .inl now))]
set_option maxHeartbeats 4000000 in
set_option maxRecDepth 100000 in
theorem c_X9_answerDay (l : Launch) (D : va_G) (kc : Nat → ClassId) (N : Nat) (a0 a1 a2 a3 a4 a5 a6 a7 a8 a9 a10 a11 a12 a13 a14 a15 a16 a17 a18 a19 a20 a21 a22 a23 a24 a25 a26 a27 a28 : Nat) (thrown : Int32) (loftSize : Int32) (startWind : Int32) (seed : Int32) (draftLoft : Int32) (draftStart : Int32) (draftSeed : Int32) (length : Int32) (textSize : Int32) (start : Int32) (next_ : Int32) (token : Int32) (value : Int32) (error : Int32) (errorAt : Int32) (number : Int32) (undos : Int32) (letters : Nat → Int32) (now : Nat → Int32) (x1 : Int32) (r_ : Int32) (thrown' : Int32) (hf : f_X9_answerDay N letters now x1 = some (r_, thrown')) : MI l yX9_answerDay wsX9_answerDay ({ frames := 2, cells := 0, slots := 0, locals := 43 }) D kc [.ref a0, .int x1] (w_X9_answerDay kc a0 a1 a2 a3 a4 a5 a6 a7 a8 a9 a10 a11 a12 a13 a14 a15 a16 a17 a18 a19 a20 a21 a22 a23 a24 a25 a26 a27 a28 thrown loftSize startWind seed draftLoft draftStart draftSeed length textSize start next_ token value error errorAt number undos letters now) (w_X9_answerDay kc a0 a1 a2 a3 a4 a5 a6 a7 a8 a9 a10 a11 a12 a13 a14 a15 a16 a17 a18 a19 a20 a21 a22 a23 a24 a25 a26 a27 a28 thrown' loftSize startWind seed draftLoft draftStart draftSeed length textSize start next_ token value error errorAt number undos letters now) r_ := by
  refine gM_I (cc := cX9_answerDay) (maxL := 2) (by decide) rfl (Nat.le_of_ble_eq_true rfl) ?_
  intro p e s m below meth c A ls Q hx hb hml hown hts hN hK hP hD hA hl kR
  have hS : va_S A s.heap s.heap [] := va_S.rf
  have hl : lv_has ls 2 [(0, .ref a0), (1, .int x1)] := hl
  have in_X9 : ∀ w ∈ u_ws RX9 TX9 45, w ∈ wsX9_answerDay := by decide +kernel
  have lk_1 := hts (.fieldLink RX9 1 "BalloonMailModel" "thrown" "I") (by decide +kernel)
  have lk_13 := hts (.fieldLink RX9 13 "BalloonMailModel" "now" "[I") (by decide +kernel)
  unfold f_X9_answerDay at hf
  refine lv_aload_n hx hb dX9_answerDay_0 rfl (lv_at hl 0 rfl) ?_
  refine lv_iconst (v := 0) hx hb dX9_answerDay_1 (by decide) ?_
  refine va_put (D := D) (ci := 9) (v := .int 0) (ty := .int) (C := RX9) (T := TX9) (N := 45) hx hb hts in_X9 tyX9 tyX9_ok nmX9 hown hK hP hD hS 0 rfl rfl 0 (by decide) lk_1 (fun _ h9 => h9) rfl (by decide +kernel) rfl rfl (Nat.le_of_ble_eq_true rfl) dX9_answerDay_2 (fun H locs hP hD hS => ?_)
  have hP : va_P D vwCl (w_X9_answerDay kc a0 a1 a2 a3 a4 a5 a6 a7 a8 a9 a10 a11 a12 a13 a14 a15 a16 a17 a18 a19 a20 a21 a22 a23 a24 a25 a26 a27 a28 0 loftSize startWind seed draftLoft draftStart draftSeed length textSize start next_ token value error errorAt number undos letters now) H := hP
  have hD : va_D A (w_X9_answerDay kc a0 a1 a2 a3 a4 a5 a6 a7 a8 a9 a10 a11 a12 a13 a14 a15 a16 a17 a18 a19 a20 a21 a22 a23 a24 a25 a26 a27 a28 0 loftSize startWind seed draftLoft draftStart draftSeed length textSize start next_ token value error errorAt number undos letters now) := hD
  refine lv_aload_n hx hb dX9_answerDay_5 rfl (lv_at hl 0 rfl) ?_
  refine lv_iload_n hx hb dX9_answerDay_6 rfl (lv_at hl 1 rfl) ?_
  obtain ⟨r_1, hc, hf⟩ := ob1_some hf
  refine g_VZ (As := [.int x1]) (rest := []) (ws' := (w_X9_answerDay kc a0 a1 a2 a3 a4 a5 a6 a7 a8 a9 a10 a11 a12 a13 a14 a15 a16 a17 a18 a19 a20 a21 a22 a23 a24 a25 a26 a27 a28 0 loftSize startWind seed draftLoft draftStart draftSeed length textSize start next_ token value error errorAt number undos letters now)) ⟨hx, hb, hml, hown, hts⟩ hN hK hP hD hS hA (c_X9_isLetter l D kc N a0 a1 a2 a3 a4 a5 a6 a7 a8 a9 a10 a11 a12 a13 a14 a15 a16 a17 a18 a19 a20 a21 a22 a23 a24 a25 a26 a27 a28 0 loftSize startWind seed draftLoft draftStart draftSeed length textSize start next_ token value error errorAt number undos letters x1 r_1 hc) (cwV 1 hts gX9_answerDay_X9_isLetter rfl rfl rfl (by decide +kernel) ⟨Nat.le_of_ble_eq_true rfl, Nat.le_of_ble_eq_true rfl⟩) [0, 1] [2] [1, 2, 0] (by exact ⟨rfl, rfl, by decide, rfl⟩) 0 9 rfl rfl rfl rfl hl.1 rfl (Nat.le_of_ble_eq_true rfl) dX9_answerDay_7 ⟨Nat.le_refl _, Nat.le_refl _⟩ (fun H locs hz hP hD hS => ?_)
  have hz_2 := hz
  refine lv_if_eq (tgt := 25) hx hb dX9_answerDay_10 (by decide) (fun hc => ?_) (fun hc => ?_)
  · have hf := o_t hc hf
    refine lv_iconst (v := (-1)) hx hb dX9_answerDay_25 (by decide) ?_
    cases hf
    exact kR _ _ _ _ hP hD hS dX9_answerDay_26
  · have hf := o_f hc hf
    refine lv_aload_n hx hb dX9_answerDay_13 rfl (lv_at hl 0 rfl) ?_
    refine va_get (D := D) (ci := 9) (v := .ref a1) (C := RX9) (T := TX9) (N := 45) hx hb hts in_X9 hown hK hP 0 rfl rfl 1 (by decide) lk_13 (fun _ h9 => h9) rfl dX9_answerDay_14 ?_
    refine lv_bipush (v := 59) hx hb dX9_answerDay_17 (by decide) ?_
    refine lv_iload_n hx hb dX9_answerDay_19 rfl (lv_at hl 1 rfl) ?_
    refine lv_iadd hx hb dX9_answerDay_20 ?_
    obtain ⟨hi, hf⟩ := gIx_some hf
    refine va_iald hx hb hK hP 2 1 rfl rfl hi dX9_answerDay_21 ?_
    refine lv_goto (tgt := 26) hx hb dX9_answerDay_22 (by decide) ?_
    cases hf
    exact kR _ _ _ _ hP hD hS dX9_answerDay_26
abbrev w_X9_pigeonsInLoft (kc : Nat → ClassId) (a0 a1 a2 a3 a4 a5 a6 a7 a8 a9 a10 a11 a12 a13 a14 a15 a16 a17 a18 a19 a20 a21 a22 a23 a24 a25 a26 a27 a28 : Nat) (thrown : Int32) (loftSize : Int32) (startWind : Int32) (seed : Int32) (draftLoft : Int32) (draftStart : Int32) (draftSeed : Int32) (length : Int32) (textSize : Int32) (start : Int32) (next_ : Int32) (token : Int32) (value : Int32) (error : Int32) (errorAt : Int32) (number : Int32) (undos : Int32) (now : Nat → Int32) : va_W := [(a0, .inr (9, [.int thrown, .ref a1, .ref a2, .ref a3, .ref a4, .ref a5, .ref a6, .ref a7, .ref a8, .ref a9, .ref a10, .ref a11, .ref a12, .ref a13, .ref a14, .ref a15, .ref a16, .ref a17, .ref a18, .ref a19, .int loftSize, .int startWind, .int seed, .int draftLoft, .int draftStart, .int draftSeed, .ref a20, .int length, .int textSize, .int start, .int next_, .int token, .int value, .int error, .int errorAt, .int number, .ref a21, .ref a22, .ref a23, .ref a24, .ref a25, .int undos, .ref a26, .ref a27, .ref a28])), (a1, .inl (kc 1, 213, .inl now))]
set_option maxHeartbeats 4000000 in
set_option maxRecDepth 100000 in
theorem c_X9_pigeonsInLoft (l : Launch) (D : va_G) (kc : Nat → ClassId) (N : Nat) (a0 a1 a2 a3 a4 a5 a6 a7 a8 a9 a10 a11 a12 a13 a14 a15 a16 a17 a18 a19 a20 a21 a22 a23 a24 a25 a26 a27 a28 : Nat) (thrown : Int32) (loftSize : Int32) (startWind : Int32) (seed : Int32) (draftLoft : Int32) (draftStart : Int32) (draftSeed : Int32) (length : Int32) (textSize : Int32) (start : Int32) (next_ : Int32) (token : Int32) (value : Int32) (error : Int32) (errorAt : Int32) (number : Int32) (undos : Int32) (now : Nat → Int32) (r_ : Int32) (thrown' : Int32) (hf : f_X9_pigeonsInLoft N now = some (r_, thrown')) : MI l yX9_pigeonsInLoft wsX9_pigeonsInLoft ({ frames := 0, cells := 0, slots := 0, locals := 0 }) D kc [.ref a0] (w_X9_pigeonsInLoft kc a0 a1 a2 a3 a4 a5 a6 a7 a8 a9 a10 a11 a12 a13 a14 a15 a16 a17 a18 a19 a20 a21 a22 a23 a24 a25 a26 a27 a28 thrown loftSize startWind seed draftLoft draftStart draftSeed length textSize start next_ token value error errorAt number undos now) (w_X9_pigeonsInLoft kc a0 a1 a2 a3 a4 a5 a6 a7 a8 a9 a10 a11 a12 a13 a14 a15 a16 a17 a18 a19 a20 a21 a22 a23 a24 a25 a26 a27 a28 thrown' loftSize startWind seed draftLoft draftStart draftSeed length textSize start next_ token value error errorAt number undos now) r_ := by
  refine gM_I (cc := cX9_pigeonsInLoft) (maxL := 1) (by decide) rfl (Nat.le_of_ble_eq_true rfl) ?_
  intro p e s m below meth c A ls Q hx hb hml hown hts hN hK hP hD hA hl kR
  have hS : va_S A s.heap s.heap [] := va_S.rf
  have hl : lv_has ls 1 [(0, .ref a0)] := hl
  have in_X9 : ∀ w ∈ u_ws RX9 TX9 45, w ∈ wsX9_pigeonsInLoft := by decide +kernel
  have lk_1 := hts (.fieldLink RX9 1 "BalloonMailModel" "thrown" "I") (by decide +kernel)
  have lk_13 := hts (.fieldLink RX9 13 "BalloonMailModel" "now" "[I") (by decide +kernel)
  unfold f_X9_pigeonsInLoft at hf
  refine lv_aload_n hx hb dX9_pigeonsInLoft_0 rfl (lv_at hl 0 rfl) ?_
  refine lv_iconst (v := 0) hx hb dX9_pigeonsInLoft_1 (by decide) ?_
  refine va_put (D := D) (ci := 9) (v := .int 0) (ty := .int) (C := RX9) (T := TX9) (N := 45) hx hb hts in_X9 tyX9 tyX9_ok nmX9 hown hK hP hD hS 0 rfl rfl 0 (by decide) lk_1 (fun _ h9 => h9) rfl (by decide +kernel) rfl rfl (Nat.le_of_ble_eq_true rfl) dX9_pigeonsInLoft_2 (fun H locs hP hD hS => ?_)
  have hP : va_P D vwCl (w_X9_pigeonsInLoft kc a0 a1 a2 a3 a4 a5 a6 a7 a8 a9 a10 a11 a12 a13 a14 a15 a16 a17 a18 a19 a20 a21 a22 a23 a24 a25 a26 a27 a28 0 loftSize startWind seed draftLoft draftStart draftSeed length textSize start next_ token value error errorAt number undos now) H := hP
  have hD : va_D A (w_X9_pigeonsInLoft kc a0 a1 a2 a3 a4 a5 a6 a7 a8 a9 a10 a11 a12 a13 a14 a15 a16 a17 a18 a19 a20 a21 a22 a23 a24 a25 a26 a27 a28 0 loftSize startWind seed draftLoft draftStart draftSeed length textSize start next_ token value error errorAt number undos now) := hD
  refine lv_aload_n hx hb dX9_pigeonsInLoft_5 rfl (lv_at hl 0 rfl) ?_
  refine va_get (D := D) (ci := 9) (v := .ref a1) (C := RX9) (T := TX9) (N := 45) hx hb hts in_X9 hown hK hP 0 rfl rfl 1 (by decide) lk_13 (fun _ h9 => h9) rfl dX9_pigeonsInLoft_6 ?_
  refine lv_iconst (v := 3) hx hb dX9_pigeonsInLoft_9 (by decide) ?_
  obtain ⟨hi, hf⟩ := gIx_some hf
  refine va_iald hx hb hK hP 1 1 rfl rfl hi dX9_pigeonsInLoft_10 ?_
  cases hf
  exact kR _ _ _ _ hP hD hS dX9_pigeonsInLoft_11
abbrev w_X9_pigeonsOnTheWay (kc : Nat → ClassId) (a0 a1 a2 a3 a4 a5 a6 a7 a8 a9 a10 a11 a12 a13 a14 a15 a16 a17 a18 a19 a20 a21 a22 a23 a24 a25 a26 a27 a28 : Nat) (thrown : Int32) (loftSize : Int32) (startWind : Int32) (seed : Int32) (draftLoft : Int32) (draftStart : Int32) (draftSeed : Int32) (length : Int32) (textSize : Int32) (start : Int32) (next_ : Int32) (token : Int32) (value : Int32) (error : Int32) (errorAt : Int32) (number : Int32) (undos : Int32) (now : Nat → Int32) : va_W := [(a0, .inr (9, [.int thrown, .ref a1, .ref a2, .ref a3, .ref a4, .ref a5, .ref a6, .ref a7, .ref a8, .ref a9, .ref a10, .ref a11, .ref a12, .ref a13, .ref a14, .ref a15, .ref a16, .ref a17, .ref a18, .ref a19, .int loftSize, .int startWind, .int seed, .int draftLoft, .int draftStart, .int draftSeed, .ref a20, .int length, .int textSize, .int start, .int next_, .int token, .int value, .int error, .int errorAt, .int number, .ref a21, .ref a22, .ref a23, .ref a24, .ref a25, .int undos, .ref a26, .ref a27, .ref a28])), (a1, .inl (kc 1, 213, .inl now))]
set_option maxHeartbeats 4000000 in
set_option maxRecDepth 100000 in
theorem c_X9_pigeonsOnTheWay (l : Launch) (D : va_G) (kc : Nat → ClassId) (N : Nat) (a0 a1 a2 a3 a4 a5 a6 a7 a8 a9 a10 a11 a12 a13 a14 a15 a16 a17 a18 a19 a20 a21 a22 a23 a24 a25 a26 a27 a28 : Nat) (thrown : Int32) (loftSize : Int32) (startWind : Int32) (seed : Int32) (draftLoft : Int32) (draftStart : Int32) (draftSeed : Int32) (length : Int32) (textSize : Int32) (start : Int32) (next_ : Int32) (token : Int32) (value : Int32) (error : Int32) (errorAt : Int32) (number : Int32) (undos : Int32) (now : Nat → Int32) (r_ : Int32) (thrown' : Int32) (hf : f_X9_pigeonsOnTheWay N now = some (r_, thrown')) : MI l yX9_pigeonsOnTheWay wsX9_pigeonsOnTheWay ({ frames := 0, cells := 0, slots := 0, locals := 0 }) D kc [.ref a0] (w_X9_pigeonsOnTheWay kc a0 a1 a2 a3 a4 a5 a6 a7 a8 a9 a10 a11 a12 a13 a14 a15 a16 a17 a18 a19 a20 a21 a22 a23 a24 a25 a26 a27 a28 thrown loftSize startWind seed draftLoft draftStart draftSeed length textSize start next_ token value error errorAt number undos now) (w_X9_pigeonsOnTheWay kc a0 a1 a2 a3 a4 a5 a6 a7 a8 a9 a10 a11 a12 a13 a14 a15 a16 a17 a18 a19 a20 a21 a22 a23 a24 a25 a26 a27 a28 thrown' loftSize startWind seed draftLoft draftStart draftSeed length textSize start next_ token value error errorAt number undos now) r_ := by
  refine gM_I (cc := cX9_pigeonsOnTheWay) (maxL := 1) (by decide) rfl (Nat.le_of_ble_eq_true rfl) ?_
  intro p e s m below meth c A ls Q hx hb hml hown hts hN hK hP hD hA hl kR
  have hS : va_S A s.heap s.heap [] := va_S.rf
  have hl : lv_has ls 1 [(0, .ref a0)] := hl
  have in_X9 : ∀ w ∈ u_ws RX9 TX9 45, w ∈ wsX9_pigeonsOnTheWay := by decide +kernel
  have lk_1 := hts (.fieldLink RX9 1 "BalloonMailModel" "thrown" "I") (by decide +kernel)
  have lk_13 := hts (.fieldLink RX9 13 "BalloonMailModel" "now" "[I") (by decide +kernel)
  unfold f_X9_pigeonsOnTheWay at hf
  refine lv_aload_n hx hb dX9_pigeonsOnTheWay_0 rfl (lv_at hl 0 rfl) ?_
  refine lv_iconst (v := 0) hx hb dX9_pigeonsOnTheWay_1 (by decide) ?_
  refine va_put (D := D) (ci := 9) (v := .int 0) (ty := .int) (C := RX9) (T := TX9) (N := 45) hx hb hts in_X9 tyX9 tyX9_ok nmX9 hown hK hP hD hS 0 rfl rfl 0 (by decide) lk_1 (fun _ h9 => h9) rfl (by decide +kernel) rfl rfl (Nat.le_of_ble_eq_true rfl) dX9_pigeonsOnTheWay_2 (fun H locs hP hD hS => ?_)
  have hP : va_P D vwCl (w_X9_pigeonsOnTheWay kc a0 a1 a2 a3 a4 a5 a6 a7 a8 a9 a10 a11 a12 a13 a14 a15 a16 a17 a18 a19 a20 a21 a22 a23 a24 a25 a26 a27 a28 0 loftSize startWind seed draftLoft draftStart draftSeed length textSize start next_ token value error errorAt number undos now) H := hP
  have hD : va_D A (w_X9_pigeonsOnTheWay kc a0 a1 a2 a3 a4 a5 a6 a7 a8 a9 a10 a11 a12 a13 a14 a15 a16 a17 a18 a19 a20 a21 a22 a23 a24 a25 a26 a27 a28 0 loftSize startWind seed draftLoft draftStart draftSeed length textSize start next_ token value error errorAt number undos now) := hD
  refine lv_aload_n hx hb dX9_pigeonsOnTheWay_5 rfl (lv_at hl 0 rfl) ?_
  refine va_get (D := D) (ci := 9) (v := .ref a1) (C := RX9) (T := TX9) (N := 45) hx hb hts in_X9 hown hK hP 0 rfl rfl 1 (by decide) lk_13 (fun _ h9 => h9) rfl dX9_pigeonsOnTheWay_6 ?_
  refine lv_bipush (v := 83) hx hb dX9_pigeonsOnTheWay_9 (by decide) ?_
  obtain ⟨hi, hf⟩ := gIx_some hf
  refine va_iald hx hb hK hP 1 1 rfl rfl hi dX9_pigeonsOnTheWay_11 ?_
  cases hf
  exact kR _ _ _ _ hP hD hS dX9_pigeonsOnTheWay_12
abbrev w_X9_pigeonsLost (kc : Nat → ClassId) (a0 a1 a2 a3 a4 a5 a6 a7 a8 a9 a10 a11 a12 a13 a14 a15 a16 a17 a18 a19 a20 a21 a22 a23 a24 a25 a26 a27 a28 : Nat) (thrown : Int32) (loftSize : Int32) (startWind : Int32) (seed : Int32) (draftLoft : Int32) (draftStart : Int32) (draftSeed : Int32) (length : Int32) (textSize : Int32) (start : Int32) (next_ : Int32) (token : Int32) (value : Int32) (error : Int32) (errorAt : Int32) (number : Int32) (undos : Int32) (now : Nat → Int32) : va_W := [(a0, .inr (9, [.int thrown, .ref a1, .ref a2, .ref a3, .ref a4, .ref a5, .ref a6, .ref a7, .ref a8, .ref a9, .ref a10, .ref a11, .ref a12, .ref a13, .ref a14, .ref a15, .ref a16, .ref a17, .ref a18, .ref a19, .int loftSize, .int startWind, .int seed, .int draftLoft, .int draftStart, .int draftSeed, .ref a20, .int length, .int textSize, .int start, .int next_, .int token, .int value, .int error, .int errorAt, .int number, .ref a21, .ref a22, .ref a23, .ref a24, .ref a25, .int undos, .ref a26, .ref a27, .ref a28])), (a1, .inl (kc 1, 213, .inl now))]
set_option maxHeartbeats 4000000 in
set_option maxRecDepth 100000 in
theorem c_X9_pigeonsLost (l : Launch) (D : va_G) (kc : Nat → ClassId) (N : Nat) (a0 a1 a2 a3 a4 a5 a6 a7 a8 a9 a10 a11 a12 a13 a14 a15 a16 a17 a18 a19 a20 a21 a22 a23 a24 a25 a26 a27 a28 : Nat) (thrown : Int32) (loftSize : Int32) (startWind : Int32) (seed : Int32) (draftLoft : Int32) (draftStart : Int32) (draftSeed : Int32) (length : Int32) (textSize : Int32) (start : Int32) (next_ : Int32) (token : Int32) (value : Int32) (error : Int32) (errorAt : Int32) (number : Int32) (undos : Int32) (now : Nat → Int32) (r_ : Int32) (thrown' : Int32) (hf : f_X9_pigeonsLost N now = some (r_, thrown')) : MI l yX9_pigeonsLost wsX9_pigeonsLost ({ frames := 0, cells := 0, slots := 0, locals := 0 }) D kc [.ref a0] (w_X9_pigeonsLost kc a0 a1 a2 a3 a4 a5 a6 a7 a8 a9 a10 a11 a12 a13 a14 a15 a16 a17 a18 a19 a20 a21 a22 a23 a24 a25 a26 a27 a28 thrown loftSize startWind seed draftLoft draftStart draftSeed length textSize start next_ token value error errorAt number undos now) (w_X9_pigeonsLost kc a0 a1 a2 a3 a4 a5 a6 a7 a8 a9 a10 a11 a12 a13 a14 a15 a16 a17 a18 a19 a20 a21 a22 a23 a24 a25 a26 a27 a28 thrown' loftSize startWind seed draftLoft draftStart draftSeed length textSize start next_ token value error errorAt number undos now) r_ := by
  refine gM_I (cc := cX9_pigeonsLost) (maxL := 1) (by decide) rfl (Nat.le_of_ble_eq_true rfl) ?_
  intro p e s m below meth c A ls Q hx hb hml hown hts hN hK hP hD hA hl kR
  have hS : va_S A s.heap s.heap [] := va_S.rf
  have hl : lv_has ls 1 [(0, .ref a0)] := hl
  have in_X9 : ∀ w ∈ u_ws RX9 TX9 45, w ∈ wsX9_pigeonsLost := by decide +kernel
  have lk_1 := hts (.fieldLink RX9 1 "BalloonMailModel" "thrown" "I") (by decide +kernel)
  have lk_13 := hts (.fieldLink RX9 13 "BalloonMailModel" "now" "[I") (by decide +kernel)
  unfold f_X9_pigeonsLost at hf
  refine lv_aload_n hx hb dX9_pigeonsLost_0 rfl (lv_at hl 0 rfl) ?_
  refine lv_iconst (v := 0) hx hb dX9_pigeonsLost_1 (by decide) ?_
  refine va_put (D := D) (ci := 9) (v := .int 0) (ty := .int) (C := RX9) (T := TX9) (N := 45) hx hb hts in_X9 tyX9 tyX9_ok nmX9 hown hK hP hD hS 0 rfl rfl 0 (by decide) lk_1 (fun _ h9 => h9) rfl (by decide +kernel) rfl rfl (Nat.le_of_ble_eq_true rfl) dX9_pigeonsLost_2 (fun H locs hP hD hS => ?_)
  have hP : va_P D vwCl (w_X9_pigeonsLost kc a0 a1 a2 a3 a4 a5 a6 a7 a8 a9 a10 a11 a12 a13 a14 a15 a16 a17 a18 a19 a20 a21 a22 a23 a24 a25 a26 a27 a28 0 loftSize startWind seed draftLoft draftStart draftSeed length textSize start next_ token value error errorAt number undos now) H := hP
  have hD : va_D A (w_X9_pigeonsLost kc a0 a1 a2 a3 a4 a5 a6 a7 a8 a9 a10 a11 a12 a13 a14 a15 a16 a17 a18 a19 a20 a21 a22 a23 a24 a25 a26 a27 a28 0 loftSize startWind seed draftLoft draftStart draftSeed length textSize start next_ token value error errorAt number undos now) := hD
  refine lv_aload_n hx hb dX9_pigeonsLost_5 rfl (lv_at hl 0 rfl) ?_
  refine va_get (D := D) (ci := 9) (v := .ref a1) (C := RX9) (T := TX9) (N := 45) hx hb hts in_X9 hown hK hP 0 rfl rfl 1 (by decide) lk_13 (fun _ h9 => h9) rfl dX9_pigeonsLost_6 ?_
  refine lv_iconst (v := 4) hx hb dX9_pigeonsLost_9 (by decide) ?_
  obtain ⟨hi, hf⟩ := gIx_some hf
  refine va_iald hx hb hK hP 1 1 rfl rfl hi dX9_pigeonsLost_10 ?_
  cases hf
  exact kR _ _ _ _ hP hD hS dX9_pigeonsLost_11
abbrev w_X9_nextReturn (kc : Nat → ClassId) (a0 a1 a2 a3 a4 a5 a6 a7 a8 a9 a10 a11 a12 a13 a14 a15 a16 a17 a18 a19 a20 a21 a22 a23 a24 a25 a26 a27 a28 : Nat) (thrown : Int32) (loftSize : Int32) (startWind : Int32) (seed : Int32) (draftLoft : Int32) (draftStart : Int32) (draftSeed : Int32) (length : Int32) (textSize : Int32) (start : Int32) (next_ : Int32) (token : Int32) (value : Int32) (error : Int32) (errorAt : Int32) (number : Int32) (undos : Int32) (now : Nat → Int32) : va_W := [(a0, .inr (9, [.int thrown, .ref a1, .ref a2, .ref a3, .ref a4, .ref a5, .ref a6, .ref a7, .ref a8, .ref a9, .ref a10, .ref a11, .ref a12, .ref a13, .ref a14, .ref a15, .ref a16, .ref a17, .ref a18, .ref a19, .int loftSize, .int startWind, .int seed, .int draftLoft, .int draftStart, .int draftSeed, .ref a20, .int length, .int textSize, .int start, .int next_, .int token, .int value, .int error, .int errorAt, .int number, .ref a21, .ref a22, .ref a23, .ref a24, .ref a25, .int undos, .ref a26, .ref a27, .ref a28])), (a1, .inl (kc 1, 213, .inl now))]
set_option maxHeartbeats 4000000 in
set_option maxRecDepth 100000 in
theorem c_X9_nextReturn (l : Launch) (D : va_G) (kc : Nat → ClassId) (N : Nat) (a0 a1 a2 a3 a4 a5 a6 a7 a8 a9 a10 a11 a12 a13 a14 a15 a16 a17 a18 a19 a20 a21 a22 a23 a24 a25 a26 a27 a28 : Nat) (thrown : Int32) (loftSize : Int32) (startWind : Int32) (seed : Int32) (draftLoft : Int32) (draftStart : Int32) (draftSeed : Int32) (length : Int32) (textSize : Int32) (start : Int32) (next_ : Int32) (token : Int32) (value : Int32) (error : Int32) (errorAt : Int32) (number : Int32) (undos : Int32) (now : Nat → Int32) (r_ : Int32) (thrown' : Int32) (hf : f_X9_nextReturn N now = some (r_, thrown')) : MI l yX9_nextReturn wsX9_nextReturn ({ frames := 0, cells := 0, slots := 0, locals := 0 }) D kc [.ref a0] (w_X9_nextReturn kc a0 a1 a2 a3 a4 a5 a6 a7 a8 a9 a10 a11 a12 a13 a14 a15 a16 a17 a18 a19 a20 a21 a22 a23 a24 a25 a26 a27 a28 thrown loftSize startWind seed draftLoft draftStart draftSeed length textSize start next_ token value error errorAt number undos now) (w_X9_nextReturn kc a0 a1 a2 a3 a4 a5 a6 a7 a8 a9 a10 a11 a12 a13 a14 a15 a16 a17 a18 a19 a20 a21 a22 a23 a24 a25 a26 a27 a28 thrown' loftSize startWind seed draftLoft draftStart draftSeed length textSize start next_ token value error errorAt number undos now) r_ := by
  refine gM_I (cc := cX9_nextReturn) (maxL := 3) (by decide) rfl (Nat.le_of_ble_eq_true rfl) ?_
  intro p e s m below meth c A ls Q hx hb hml hown hts hN hK hP hD hA hl kR
  have hS : va_S A s.heap s.heap [] := va_S.rf
  have hl : lv_has ls 3 [(0, .ref a0)] := hl
  have in_X9 : ∀ w ∈ u_ws RX9 TX9 45, w ∈ wsX9_nextReturn := by decide +kernel
  have lk_1 := hts (.fieldLink RX9 1 "BalloonMailModel" "thrown" "I") (by decide +kernel)
  have lk_13 := hts (.fieldLink RX9 13 "BalloonMailModel" "now" "[I") (by decide +kernel)
  unfold f_X9_nextReturn at hf
  refine lv_aload_n hx hb dX9_nextReturn_0 rfl (lv_at hl 0 rfl) ?_
  refine lv_iconst (v := 0) hx hb dX9_nextReturn_1 (by decide) ?_
  refine va_put (D := D) (ci := 9) (v := .int 0) (ty := .int) (C := RX9) (T := TX9) (N := 45) hx hb hts in_X9 tyX9 tyX9_ok nmX9 hown hK hP hD hS 0 rfl rfl 0 (by decide) lk_1 (fun _ h9 => h9) rfl (by decide +kernel) rfl rfl (Nat.le_of_ble_eq_true rfl) dX9_nextReturn_2 (fun H locs hP hD hS => ?_)
  have hP : va_P D vwCl (w_X9_nextReturn kc a0 a1 a2 a3 a4 a5 a6 a7 a8 a9 a10 a11 a12 a13 a14 a15 a16 a17 a18 a19 a20 a21 a22 a23 a24 a25 a26 a27 a28 0 loftSize startWind seed draftLoft draftStart draftSeed length textSize start next_ token value error errorAt number undos now) H := hP
  have hD : va_D A (w_X9_nextReturn kc a0 a1 a2 a3 a4 a5 a6 a7 a8 a9 a10 a11 a12 a13 a14 a15 a16 a17 a18 a19 a20 a21 a22 a23 a24 a25 a26 a27 a28 0 loftSize startWind seed draftLoft draftStart draftSeed length textSize start next_ token value error errorAt number undos now) := hD
  refine lv_bipush (v := (-2)) hx hb dX9_nextReturn_5 (by decide) ?_
  refine lv_istore_n (lv' := [(1, .int (-2)), (0, .ref a0)]) hx hb dX9_nextReturn_7 rfl hl (by decide) rfl (fun ls hl => ?_)
  refine lv_iconst (v := 0) hx hb dX9_nextReturn_8 (by decide) ?_
  refine lv_istore_n (lv' := [(2, .int 0), (1, .int (-2)), (0, .ref a0)]) hx hb dX9_nextReturn_9 rfl hl (by decide) rfl (fun ls hl => ?_)
  have L10 : ∀ (thrown_f10 : Int32) (n : Nat) (y2_10 : Int32) (y1_10 : Int32) (y2_10o : Int32) (y1_10o : Int32), f_X9_nextReturn_10 N now n y2_10 y1_10 = some (y2_10o, y1_10o) → (∀ (H : Heap) (locs : List Loc) (ls : Array Slot), va_P D vwCl (w_X9_nextReturn kc a0 a1 a2 a3 a4 a5 a6 a7 a8 a9 a10 a11 a12 a13 a14 a15 a16 a17 a18 a19 a20 a21 a22 a23 a24 a25 a26 a27 a28 thrown_f10 loftSize startWind seed draftLoft draftStart draftSeed length textSize start next_ token value error errorAt number undos now) H → va_D A (w_X9_nextReturn kc a0 a1 a2 a3 a4 a5 a6 a7 a8 a9 a10 a11 a12 a13 a14 a15 a16 a17 a18 a19 a20 a21 a22 a23 a24 a25 a26 a27 a28 thrown_f10 loftSize startWind seed draftLoft draftStart draftSeed length textSize start next_ token value error errorAt number undos now) → va_S A s.heap H locs → lv_has ls 3 [(0, .ref a0), (1, .int y1_10o), (2, .int y2_10o)] → W p l e ({ frames := 0, cells := 0, slots := 0, locals := 0 }) s m (([.ref a0] : List Value).toArray) below meth c H locs 0 0 Q (F0 m 60 ls [])) → ∀ (H : Heap) (locs : List Loc) (ls : Array Slot), va_P D vwCl (w_X9_nextReturn kc a0 a1 a2 a3 a4 a5 a6 a7 a8 a9 a10 a11 a12 a13 a14 a15 a16 a17 a18 a19 a20 a21 a22 a23 a24 a25 a26 a27 a28 thrown_f10 loftSize startWind seed draftLoft draftStart draftSeed length textSize start next_ token value error errorAt number undos now) H → va_D A (w_X9_nextReturn kc a0 a1 a2 a3 a4 a5 a6 a7 a8 a9 a10 a11 a12 a13 a14 a15 a16 a17 a18 a19 a20 a21 a22 a23 a24 a25 a26 a27 a28 thrown_f10 loftSize startWind seed draftLoft draftStart draftSeed length textSize start next_ token value error errorAt number undos now) → va_S A s.heap H locs → lv_has ls 3 [(0, .ref a0), (1, .int y1_10), (2, .int y2_10)] → W p l e ({ frames := 0, cells := 0, slots := 0, locals := 0 }) s m (([.ref a0] : List Value).toArray) below meth c H locs 0 0 Q (F0 m 10 ls []) := by
    intro thrown_f10 n
    induction n with
    | zero => intro _ _ _ _ hf; rw [f_X9_nextReturn_10.eq_1] at hf; cases hf
    | succ n ih =>
      intro y2_10 y1_10 y2_10o y1_10o hf hk H locs ls hP hD hS hl
      rw [f_X9_nextReturn_10.eq_2] at hf
      refine lv_iload_n hx hb dX9_nextReturn_10 rfl (lv_at hl 2 rfl) ?_
      refine lv_aload_n hx hb dX9_nextReturn_11 rfl (lv_at hl 0 rfl) ?_
      refine va_get (D := D) (ci := 9) (v := .ref a1) (C := RX9) (T := TX9) (N := 45) hx hb hts in_X9 hown hK hP 0 rfl rfl 1 (by decide) lk_13 (fun _ h9 => h9) rfl dX9_nextReturn_12 ?_
      refine lv_bipush (v := 83) hx hb dX9_nextReturn_15 (by decide) ?_
      obtain ⟨hi, hf⟩ := gIx_some hf
      refine va_iald hx hb hK hP 1 1 rfl rfl hi dX9_nextReturn_17 ?_
      refine lv_icmp_ge (tgt := 60) hx hb dX9_nextReturn_18 (by decide) (fun hc => ?_) (fun hc => ?_)
      · have hf := o_t hc hf
        cases hf
        exact hk _ _ _ hP hD hS (lv_sub hl [0, 1, 2] rfl)
      · have hf := o_f hc hf
        refine lv_iload_n hx hb dX9_nextReturn_21 rfl (lv_at hl 1 rfl) ?_
        refine lv_bipush (v := (-2)) hx hb dX9_nextReturn_22 (by decide) ?_
        refine lv_icmp_eq (tgt := 40) hx hb dX9_nextReturn_24 (by decide) (fun hc => ?_) (fun hc => ?_)
        · have hf := o_t hc hf
          refine lv_aload_n hx hb dX9_nextReturn_40 rfl (lv_at hl 0 rfl) ?_
          refine va_get (D := D) (ci := 9) (v := .ref a1) (C := RX9) (T := TX9) (N := 45) hx hb hts in_X9 hown hK hP 0 rfl rfl 1 (by decide) lk_13 (fun _ h9 => h9) rfl dX9_nextReturn_41 ?_
          refine lv_bipush (v := 124) hx hb dX9_nextReturn_44 (by decide) ?_
          refine lv_iload_n hx hb dX9_nextReturn_46 rfl (lv_at hl 2 rfl) ?_
          refine lv_iadd hx hb dX9_nextReturn_47 ?_
          obtain ⟨hi, hf⟩ := gIx_some hf
          refine va_iald hx hb hK hP 1 1 rfl rfl hi dX9_nextReturn_48 ?_
          refine lv_goto (tgt := 53) hx hb dX9_nextReturn_49 (by decide) ?_
          refine lv_istore_n (lv' := [(1, .int (now ((124 + y2_10) : Int32).toNatClampNeg)), (0, .ref a0), (2, .int y2_10)]) hx hb dX9_nextReturn_53 rfl hl (by decide) rfl (fun ls hl => ?_)
          refine lv_iinc (v := (y2_10 + 1)) (lv' := [(2, .int (y2_10 + 1)), (1, .int (now ((124 + y2_10) : Int32).toNatClampNeg)), (0, .ref a0)]) hx hb dX9_nextReturn_54 hl (k := 2) rfl (by rfl) (by decide) rfl (fun ls hl => ?_)
          refine lv_goto (tgt := 10) hx hb dX9_nextReturn_57 (by decide) ?_
          exact ih _ _ _ _ hf hk _ _ _ hP hD hS (lv_sub hl [2, 1, 0] rfl)
        · have hf := o_f hc hf
          refine lv_aload_n hx hb dX9_nextReturn_27 rfl (lv_at hl 0 rfl) ?_
          refine va_get (D := D) (ci := 9) (v := .ref a1) (C := RX9) (T := TX9) (N := 45) hx hb hts in_X9 hown hK hP 0 rfl rfl 1 (by decide) lk_13 (fun _ h9 => h9) rfl dX9_nextReturn_28 ?_
          refine lv_bipush (v := 124) hx hb dX9_nextReturn_31 (by decide) ?_
          refine lv_iload_n hx hb dX9_nextReturn_33 rfl (lv_at hl 2 rfl) ?_
          refine lv_iadd hx hb dX9_nextReturn_34 ?_
          obtain ⟨hi, hf⟩ := gIx_some hf
          refine va_iald hx hb hK hP 1 1 rfl rfl hi dX9_nextReturn_35 ?_
          refine lv_iload_n hx hb dX9_nextReturn_36 rfl (lv_at hl 1 rfl) ?_
          refine lv_icmp_ge (tgt := 52) hx hb dX9_nextReturn_37 (by decide) (fun hc => ?_) (fun hc => ?_)
          · have hf := o_t hc hf
            refine lv_iload_n hx hb dX9_nextReturn_52 rfl (lv_at hl 1 rfl) ?_
            refine lv_istore_n (lv' := [(1, .int y1_10), (0, .ref a0), (2, .int y2_10)]) hx hb dX9_nextReturn_53 rfl hl (by decide) rfl (fun ls hl => ?_)
            refine lv_iinc (v := (y2_10 + 1)) (lv' := [(2, .int (y2_10 + 1)), (1, .int y1_10), (0, .ref a0)]) hx hb dX9_nextReturn_54 hl (k := 2) rfl (by rfl) (by decide) rfl (fun ls hl => ?_)
            refine lv_goto (tgt := 10) hx hb dX9_nextReturn_57 (by decide) ?_
            exact ih _ _ _ _ hf hk _ _ _ hP hD hS (lv_sub hl [2, 1, 0] rfl)
          · have hf := o_f hc hf
            refine lv_aload_n hx hb dX9_nextReturn_40 rfl (lv_at hl 0 rfl) ?_
            refine va_get (D := D) (ci := 9) (v := .ref a1) (C := RX9) (T := TX9) (N := 45) hx hb hts in_X9 hown hK hP 0 rfl rfl 1 (by decide) lk_13 (fun _ h9 => h9) rfl dX9_nextReturn_41 ?_
            refine lv_bipush (v := 124) hx hb dX9_nextReturn_44 (by decide) ?_
            refine lv_iload_n hx hb dX9_nextReturn_46 rfl (lv_at hl 2 rfl) ?_
            refine lv_iadd hx hb dX9_nextReturn_47 ?_
            obtain ⟨hi, hf⟩ := gIx_some hf
            refine va_iald hx hb hK hP 1 1 rfl rfl hi dX9_nextReturn_48 ?_
            refine lv_goto (tgt := 53) hx hb dX9_nextReturn_49 (by decide) ?_
            refine lv_istore_n (lv' := [(1, .int (now ((124 + y2_10) : Int32).toNatClampNeg)), (0, .ref a0), (2, .int y2_10)]) hx hb dX9_nextReturn_53 rfl hl (by decide) rfl (fun ls hl => ?_)
            refine lv_iinc (v := (y2_10 + 1)) (lv' := [(2, .int (y2_10 + 1)), (1, .int (now ((124 + y2_10) : Int32).toNatClampNeg)), (0, .ref a0)]) hx hb dX9_nextReturn_54 hl (k := 2) rfl (by rfl) (by decide) rfl (fun ls hl => ?_)
            refine lv_goto (tgt := 10) hx hb dX9_nextReturn_57 (by decide) ?_
            exact ih _ _ _ _ hf hk _ _ _ hP hD hS (lv_sub hl [2, 1, 0] rfl)
  obtain ⟨y2_10o, y1_10o, hc, hf⟩ := ob2_some hf
  refine L10 0 N _ _ _ _ hc (fun H locs ls hP hD hS hl => ?_) _ _ _ hP hD hS (lv_sub hl [2, 1, 0] rfl)
  refine lv_iload_n hx hb dX9_nextReturn_60 rfl (lv_at hl 1 rfl) ?_
  cases hf
  exact kR _ _ _ _ hP hD hS dX9_nextReturn_61
abbrev w_X9_weightIn (kc : Nat → ClassId) (a0 a1 a2 a3 a4 a5 a6 a7 a8 a9 a10 a11 a12 a13 a14 a15 a16 a17 a18 a19 a20 a21 a22 a23 a24 a25 a26 a27 a28 : Nat) (thrown : Int32) (loftSize : Int32) (startWind : Int32) (seed : Int32) (draftLoft : Int32) (draftStart : Int32) (draftSeed : Int32) (length : Int32) (textSize : Int32) (start : Int32) (next_ : Int32) (token : Int32) (value : Int32) (error : Int32) (errorAt : Int32) (number : Int32) (undos : Int32) (letters : Nat → Int32) (now : Nat → Int32) (weight : Nat → Int32) : va_W := [(a0, .inr (9, [.int thrown, .ref a1, .ref a2, .ref a3, .ref a4, .ref a5, .ref a6, .ref a7, .ref a8, .ref a9, .ref a10, .ref a11, .ref a12, .ref a13, .ref a14, .ref a15, .ref a16, .ref a17, .ref a18, .ref a19, .int loftSize, .int startWind, .int seed, .int draftLoft, .int draftStart, .int draftSeed, .ref a20, .int length, .int textSize, .int start, .int next_, .int token, .int value, .int error, .int errorAt, .int number, .ref a21, .ref a22, .ref a23, .ref a24, .ref a25, .int undos, .ref a26, .ref a27, .ref a28])), (a17, .inl (kc 1, 2, .inl letters)), (a1, .inl (kc 1, 213, .inl now)), (a18, .inl (kc 1, 48, .inl weight))]
set_option maxHeartbeats 4000000 in
set_option maxRecDepth 100000 in
theorem c_X9_weightIn (l : Launch) (D : va_G) (kc : Nat → ClassId) (N : Nat) (a0 a1 a2 a3 a4 a5 a6 a7 a8 a9 a10 a11 a12 a13 a14 a15 a16 a17 a18 a19 a20 a21 a22 a23 a24 a25 a26 a27 a28 : Nat) (thrown : Int32) (loftSize : Int32) (startWind : Int32) (seed : Int32) (draftLoft : Int32) (draftStart : Int32) (draftSeed : Int32) (length : Int32) (textSize : Int32) (start : Int32) (next_ : Int32) (token : Int32) (value : Int32) (error : Int32) (errorAt : Int32) (number : Int32) (undos : Int32) (letters : Nat → Int32) (now : Nat → Int32) (weight : Nat → Int32) (x1 : Int32) (r_ : Int32) (thrown' : Int32) (hf : f_X9_weightIn N letters now weight x1 = some (r_, thrown')) : MI l yX9_weightIn wsX9_weightIn ({ frames := 2, cells := 0, slots := 0, locals := 45 }) D kc [.ref a0, .int x1] (w_X9_weightIn kc a0 a1 a2 a3 a4 a5 a6 a7 a8 a9 a10 a11 a12 a13 a14 a15 a16 a17 a18 a19 a20 a21 a22 a23 a24 a25 a26 a27 a28 thrown loftSize startWind seed draftLoft draftStart draftSeed length textSize start next_ token value error errorAt number undos letters now weight) (w_X9_weightIn kc a0 a1 a2 a3 a4 a5 a6 a7 a8 a9 a10 a11 a12 a13 a14 a15 a16 a17 a18 a19 a20 a21 a22 a23 a24 a25 a26 a27 a28 thrown' loftSize startWind seed draftLoft draftStart draftSeed length textSize start next_ token value error errorAt number undos letters now weight) r_ := by
  refine gM_I (cc := cX9_weightIn) (maxL := 2) (by decide) rfl (Nat.le_of_ble_eq_true rfl) ?_
  intro p e s m below meth c A ls Q hx hb hml hown hts hN hK hP hD hA hl kR
  have hS : va_S A s.heap s.heap [] := va_S.rf
  have hl : lv_has ls 2 [(0, .ref a0), (1, .int x1)] := hl
  have in_X9 : ∀ w ∈ u_ws RX9 TX9 45, w ∈ wsX9_weightIn := by decide +kernel
  have lk_1 := hts (.fieldLink RX9 1 "BalloonMailModel" "thrown" "I") (by decide +kernel)
  have lk_65 := hts (.fieldLink RX9 65 "BalloonMailModel" "weight" "[I") (by decide +kernel)
  unfold f_X9_weightIn at hf
  refine lv_aload_n hx hb dX9_weightIn_0 rfl (lv_at hl 0 rfl) ?_
  refine lv_iconst (v := 0) hx hb dX9_weightIn_1 (by decide) ?_
  refine va_put (D := D) (ci := 9) (v := .int 0) (ty := .int) (C := RX9) (T := TX9) (N := 45) hx hb hts in_X9 tyX9 tyX9_ok nmX9 hown hK hP hD hS 0 rfl rfl 0 (by decide) lk_1 (fun _ h9 => h9) rfl (by decide +kernel) rfl rfl (Nat.le_of_ble_eq_true rfl) dX9_weightIn_2 (fun H locs hP hD hS => ?_)
  have hP : va_P D vwCl (w_X9_weightIn kc a0 a1 a2 a3 a4 a5 a6 a7 a8 a9 a10 a11 a12 a13 a14 a15 a16 a17 a18 a19 a20 a21 a22 a23 a24 a25 a26 a27 a28 0 loftSize startWind seed draftLoft draftStart draftSeed length textSize start next_ token value error errorAt number undos letters now weight) H := hP
  have hD : va_D A (w_X9_weightIn kc a0 a1 a2 a3 a4 a5 a6 a7 a8 a9 a10 a11 a12 a13 a14 a15 a16 a17 a18 a19 a20 a21 a22 a23 a24 a25 a26 a27 a28 0 loftSize startWind seed draftLoft draftStart draftSeed length textSize start next_ token value error errorAt number undos letters now weight) := hD
  refine lv_iload_n hx hb dX9_weightIn_5 rfl (lv_at hl 1 rfl) ?_
  refine lv_iconst (v := 0) hx hb dX9_weightIn_6 (by decide) ?_
  refine lv_iconst (v := 3) hx hb dX9_weightIn_7 (by decide) ?_
  obtain ⟨r_1, hc, hf⟩ := ob1_some hf
  refine g_SZ (As := [.int x1, .int 0, .int 3]) (rest := []) (ws' := (w_X9_weightIn kc a0 a1 a2 a3 a4 a5 a6 a7 a8 a9 a10 a11 a12 a13 a14 a15 a16 a17 a18 a19 a20 a21 a22 a23 a24 a25 a26 a27 a28 0 loftSize startWind seed draftLoft draftStart draftSeed length textSize start next_ token value error errorAt number undos letters now weight)) ⟨hx, hb, hml, hown, hts⟩ hN hK hP hD hS hA (c_X9_within l D kc N x1 0 3 r_1 hc) (va_cwS 3 hts gX9_weightIn_X9_within rfl rfl rfl (by decide +kernel) ⟨Nat.le_of_ble_eq_true rfl, Nat.le_of_ble_eq_true rfl⟩) [] [0, 1, 2, 3] [0, 1, 2, 3] (by exact ⟨rfl, rfl, by decide, rfl⟩) rfl hl.1 rfl (Nat.le_of_ble_eq_true rfl) dX9_weightIn_8 ⟨Nat.le_refl _, Nat.le_refl _⟩ (fun H locs hz hP hD hS => ?_)
  have hz_2 := hz
  refine lv_if_eq (tgt := 30) hx hb dX9_weightIn_11 (by decide) (fun hc => ?_) (fun hc => ?_)
  · have hf := o_t hc hf
    refine lv_iconst (v := (-1)) hx hb dX9_weightIn_30 (by decide) ?_
    cases hf
    exact kR _ _ _ _ hP hD hS dX9_weightIn_31
  · have hf := o_f hc hf
    refine lv_aload_n hx hb dX9_weightIn_14 rfl (lv_at hl 0 rfl) ?_
    refine lv_aload_n hx hb dX9_weightIn_15 rfl (lv_at hl 0 rfl) ?_
    refine lv_iload_n hx hb dX9_weightIn_16 rfl (lv_at hl 1 rfl) ?_
    obtain ⟨r_3, hc, hf⟩ := ob1_some hf
    refine g_VI (As := [.int x1]) (rest := [.ref a0]) (ws' := (w_X9_weightIn kc a0 a1 a2 a3 a4 a5 a6 a7 a8 a9 a10 a11 a12 a13 a14 a15 a16 a17 a18 a19 a20 a21 a22 a23 a24 a25 a26 a27 a28 0 loftSize startWind seed draftLoft draftStart draftSeed length textSize start next_ token value error errorAt number undos letters now weight)) ⟨hx, hb, hml, hown, hts⟩ hN hK hP hD hS hA (c_X9_inState l D kc N a0 a1 a2 a3 a4 a5 a6 a7 a8 a9 a10 a11 a12 a13 a14 a15 a16 a17 a18 a19 a20 a21 a22 a23 a24 a25 a26 a27 a28 0 loftSize startWind seed draftLoft draftStart draftSeed length textSize start next_ token value error errorAt number undos letters now x1 r_3 hc) (cwV 1 hts gX9_weightIn_X9_inState rfl rfl rfl (by decide +kernel) ⟨Nat.le_of_ble_eq_true rfl, Nat.le_of_ble_eq_true rfl⟩) [0, 1, 2] [3] [1, 2, 3, 0] (by exact ⟨rfl, rfl, by decide, rfl⟩) 0 9 rfl rfl rfl rfl hl.1 rfl (Nat.le_of_ble_eq_true rfl) dX9_weightIn_17 ⟨Nat.le_refl _, Nat.le_refl _⟩ (fun H locs hP hD hS => ?_)
    refine lv_aload_n hx hb dX9_weightIn_20 rfl (lv_at hl 0 rfl) ?_
    refine va_get (D := D) (ci := 9) (v := .ref a18) (C := RX9) (T := TX9) (N := 45) hx hb hts in_X9 hown hK hP 0 rfl rfl 18 (by decide) lk_65 (fun _ h9 => h9) rfl dX9_weightIn_21 ?_
    obtain ⟨r_4, hc, hf⟩ := ob1_some hf
    refine g_VI (As := [.int r_3, .ref a18]) (rest := []) (ws' := (w_X9_weightIn kc a0 a1 a2 a3 a4 a5 a6 a7 a8 a9 a10 a11 a12 a13 a14 a15 a16 a17 a18 a19 a20 a21 a22 a23 a24 a25 a26 a27 a28 0 loftSize startWind seed draftLoft draftStart draftSeed length textSize start next_ token value error errorAt number undos letters now weight)) ⟨hx, hb, hml, hown, hts⟩ hN hK hP hD hS hA (c_X9_sumOf l D kc N a0 a1 a2 a3 a4 a5 a6 a7 a8 a9 a10 a11 a12 a13 a14 a15 a16 a17 a18 a19 a20 a21 a22 a23 a24 a25 a26 a27 a28 a18 48 0 loftSize startWind seed draftLoft draftStart draftSeed length textSize start next_ token value error errorAt number undos letters weight r_3 r_4 hc) (cwV 2 hts gX9_weightIn_X9_sumOf rfl rfl rfl (by decide +kernel) ⟨Nat.le_of_ble_eq_true rfl, Nat.le_of_ble_eq_true rfl⟩) [0, 1, 3] [2] [1, 2, 0, 3] (by exact ⟨rfl, rfl, by decide, rfl⟩) 0 9 rfl rfl rfl rfl hl.1 rfl (Nat.le_of_ble_eq_true rfl) dX9_weightIn_24 ⟨Nat.le_refl _, Nat.le_refl _⟩ (fun H locs hP hD hS => ?_)
    refine lv_goto (tgt := 31) hx hb dX9_weightIn_27 (by decide) ?_
    cases hf
    exact kR _ _ _ _ hP hD hS dX9_weightIn_31
abbrev w_X9_answeredPriority (kc : Nat → ClassId) (a0 a1 a2 a3 a4 a5 a6 a7 a8 a9 a10 a11 a12 a13 a14 a15 a16 a17 a18 a19 a20 a21 a22 a23 a24 a25 a26 a27 a28 : Nat) (thrown : Int32) (loftSize : Int32) (startWind : Int32) (seed : Int32) (draftLoft : Int32) (draftStart : Int32) (draftSeed : Int32) (length : Int32) (textSize : Int32) (start : Int32) (next_ : Int32) (token : Int32) (value : Int32) (error : Int32) (errorAt : Int32) (number : Int32) (undos : Int32) (letters : Nat → Int32) (now : Nat → Int32) (priority : Nat → Int32) : va_W := [(a0, .inr (9, [.int thrown, .ref a1, .ref a2, .ref a3, .ref a4, .ref a5, .ref a6, .ref a7, .ref a8, .ref a9, .ref a10, .ref a11, .ref a12, .ref a13, .ref a14, .ref a15, .ref a16, .ref a17, .ref a18, .ref a19, .int loftSize, .int startWind, .int seed, .int draftLoft, .int draftStart, .int draftSeed, .ref a20, .int length, .int textSize, .int start, .int next_, .int token, .int value, .int error, .int errorAt, .int number, .ref a21, .ref a22, .ref a23, .ref a24, .ref a25, .int undos, .ref a26, .ref a27, .ref a28])), (a17, .inl (kc 1, 2, .inl letters)), (a1, .inl (kc 1, 213, .inl now)), (a19, .inl (kc 1, 48, .inl priority))]
set_option maxHeartbeats 4000000 in
set_option maxRecDepth 100000 in
theorem c_X9_answeredPriority (l : Launch) (D : va_G) (kc : Nat → ClassId) (N : Nat) (a0 a1 a2 a3 a4 a5 a6 a7 a8 a9 a10 a11 a12 a13 a14 a15 a16 a17 a18 a19 a20 a21 a22 a23 a24 a25 a26 a27 a28 : Nat) (thrown : Int32) (loftSize : Int32) (startWind : Int32) (seed : Int32) (draftLoft : Int32) (draftStart : Int32) (draftSeed : Int32) (length : Int32) (textSize : Int32) (start : Int32) (next_ : Int32) (token : Int32) (value : Int32) (error : Int32) (errorAt : Int32) (number : Int32) (undos : Int32) (letters : Nat → Int32) (now : Nat → Int32) (priority : Nat → Int32) (r_ : Int32) (thrown' : Int32) (hf : f_X9_answeredPriority N letters now priority = some (r_, thrown')) : MI l yX9_answeredPriority wsX9_answeredPriority ({ frames := 2, cells := 0, slots := 0, locals := 45 }) D kc [.ref a0] (w_X9_answeredPriority kc a0 a1 a2 a3 a4 a5 a6 a7 a8 a9 a10 a11 a12 a13 a14 a15 a16 a17 a18 a19 a20 a21 a22 a23 a24 a25 a26 a27 a28 thrown loftSize startWind seed draftLoft draftStart draftSeed length textSize start next_ token value error errorAt number undos letters now priority) (w_X9_answeredPriority kc a0 a1 a2 a3 a4 a5 a6 a7 a8 a9 a10 a11 a12 a13 a14 a15 a16 a17 a18 a19 a20 a21 a22 a23 a24 a25 a26 a27 a28 thrown' loftSize startWind seed draftLoft draftStart draftSeed length textSize start next_ token value error errorAt number undos letters now priority) r_ := by
  refine gM_I (cc := cX9_answeredPriority) (maxL := 1) (by decide) rfl (Nat.le_of_ble_eq_true rfl) ?_
  intro p e s m below meth c A ls Q hx hb hml hown hts hN hK hP hD hA hl kR
  have hS : va_S A s.heap s.heap [] := va_S.rf
  have hl : lv_has ls 1 [(0, .ref a0)] := hl
  have in_X9 : ∀ w ∈ u_ws RX9 TX9 45, w ∈ wsX9_answeredPriority := by decide +kernel
  have lk_1 := hts (.fieldLink RX9 1 "BalloonMailModel" "thrown" "I") (by decide +kernel)
  have lk_68 := hts (.fieldLink RX9 68 "BalloonMailModel" "priority" "[I") (by decide +kernel)
  unfold f_X9_answeredPriority at hf
  refine lv_aload_n hx hb dX9_answeredPriority_0 rfl (lv_at hl 0 rfl) ?_
  refine lv_iconst (v := 0) hx hb dX9_answeredPriority_1 (by decide) ?_
  refine va_put (D := D) (ci := 9) (v := .int 0) (ty := .int) (C := RX9) (T := TX9) (N := 45) hx hb hts in_X9 tyX9 tyX9_ok nmX9 hown hK hP hD hS 0 rfl rfl 0 (by decide) lk_1 (fun _ h9 => h9) rfl (by decide +kernel) rfl rfl (Nat.le_of_ble_eq_true rfl) dX9_answeredPriority_2 (fun H locs hP hD hS => ?_)
  have hP : va_P D vwCl (w_X9_answeredPriority kc a0 a1 a2 a3 a4 a5 a6 a7 a8 a9 a10 a11 a12 a13 a14 a15 a16 a17 a18 a19 a20 a21 a22 a23 a24 a25 a26 a27 a28 0 loftSize startWind seed draftLoft draftStart draftSeed length textSize start next_ token value error errorAt number undos letters now priority) H := hP
  have hD : va_D A (w_X9_answeredPriority kc a0 a1 a2 a3 a4 a5 a6 a7 a8 a9 a10 a11 a12 a13 a14 a15 a16 a17 a18 a19 a20 a21 a22 a23 a24 a25 a26 a27 a28 0 loftSize startWind seed draftLoft draftStart draftSeed length textSize start next_ token value error errorAt number undos letters now priority) := hD
  refine lv_aload_n hx hb dX9_answeredPriority_5 rfl (lv_at hl 0 rfl) ?_
  refine lv_aload_n hx hb dX9_answeredPriority_6 rfl (lv_at hl 0 rfl) ?_
  refine lv_iconst (v := 3) hx hb dX9_answeredPriority_7 (by decide) ?_
  obtain ⟨r_1, hc, hf⟩ := ob1_some hf
  refine g_VI (As := [.int 3]) (rest := [.ref a0]) (ws' := (w_X9_answeredPriority kc a0 a1 a2 a3 a4 a5 a6 a7 a8 a9 a10 a11 a12 a13 a14 a15 a16 a17 a18 a19 a20 a21 a22 a23 a24 a25 a26 a27 a28 0 loftSize startWind seed draftLoft draftStart draftSeed length textSize start next_ token value error errorAt number undos letters now priority)) ⟨hx, hb, hml, hown, hts⟩ hN hK hP hD hS hA (c_X9_inState l D kc N a0 a1 a2 a3 a4 a5 a6 a7 a8 a9 a10 a11 a12 a13 a14 a15 a16 a17 a18 a19 a20 a21 a22 a23 a24 a25 a26 a27 a28 0 loftSize startWind seed draftLoft draftStart draftSeed length textSize start next_ token value error errorAt number undos letters now 3 r_1 hc) (cwV 1 hts gX9_answeredPriority_X9_inState rfl rfl rfl (by decide +kernel) ⟨Nat.le_of_ble_eq_true rfl, Nat.le_of_ble_eq_true rfl⟩) [0, 1, 2] [3] [1, 2, 3, 0] (by exact ⟨rfl, rfl, by decide, rfl⟩) 0 9 rfl rfl rfl rfl hl.1 rfl (Nat.le_of_ble_eq_true rfl) dX9_answeredPriority_8 ⟨Nat.le_refl _, Nat.le_refl _⟩ (fun H locs hP hD hS => ?_)
  refine lv_aload_n hx hb dX9_answeredPriority_11 rfl (lv_at hl 0 rfl) ?_
  refine va_get (D := D) (ci := 9) (v := .ref a19) (C := RX9) (T := TX9) (N := 45) hx hb hts in_X9 hown hK hP 0 rfl rfl 19 (by decide) lk_68 (fun _ h9 => h9) rfl dX9_answeredPriority_12 ?_
  obtain ⟨r_2, hc, hf⟩ := ob1_some hf
  refine g_VI (As := [.int r_1, .ref a19]) (rest := []) (ws' := (w_X9_answeredPriority kc a0 a1 a2 a3 a4 a5 a6 a7 a8 a9 a10 a11 a12 a13 a14 a15 a16 a17 a18 a19 a20 a21 a22 a23 a24 a25 a26 a27 a28 0 loftSize startWind seed draftLoft draftStart draftSeed length textSize start next_ token value error errorAt number undos letters now priority)) ⟨hx, hb, hml, hown, hts⟩ hN hK hP hD hS hA (c_X9_sumOf l D kc N a0 a1 a2 a3 a4 a5 a6 a7 a8 a9 a10 a11 a12 a13 a14 a15 a16 a17 a18 a19 a20 a21 a22 a23 a24 a25 a26 a27 a28 a19 48 0 loftSize startWind seed draftLoft draftStart draftSeed length textSize start next_ token value error errorAt number undos letters priority r_1 r_2 hc) (cwV 2 hts gX9_answeredPriority_X9_sumOf rfl rfl rfl (by decide +kernel) ⟨Nat.le_of_ble_eq_true rfl, Nat.le_of_ble_eq_true rfl⟩) [0, 1, 3] [2] [1, 2, 0, 3] (by exact ⟨rfl, rfl, by decide, rfl⟩) 0 9 rfl rfl rfl rfl hl.1 rfl (Nat.le_of_ble_eq_true rfl) dX9_answeredPriority_15 ⟨Nat.le_refl _, Nat.le_refl _⟩ (fun H locs hP hD hS => ?_)
  cases hf
  exact kR _ _ _ _ hP hD hS dX9_answeredPriority_18
abbrev w_X9_balloonsIn (kc : Nat → ClassId) (a0 a1 a2 a3 a4 a5 a6 a7 a8 a9 a10 a11 a12 a13 a14 a15 a16 a17 a18 a19 a20 a21 a22 a23 a24 a25 a26 a27 a28 : Nat) (thrown : Int32) (loftSize : Int32) (startWind : Int32) (seed : Int32) (draftLoft : Int32) (draftStart : Int32) (draftSeed : Int32) (length : Int32) (textSize : Int32) (start : Int32) (next_ : Int32) (token : Int32) (value : Int32) (error : Int32) (errorAt : Int32) (number : Int32) (undos : Int32) (regions : Nat → Int32) (balloons : Nat → Int32) (now : Nat → Int32) : va_W := [(a0, .inr (9, [.int thrown, .ref a1, .ref a2, .ref a3, .ref a4, .ref a5, .ref a6, .ref a7, .ref a8, .ref a9, .ref a10, .ref a11, .ref a12, .ref a13, .ref a14, .ref a15, .ref a16, .ref a17, .ref a18, .ref a19, .int loftSize, .int startWind, .int seed, .int draftLoft, .int draftStart, .int draftSeed, .ref a20, .int length, .int textSize, .int start, .int next_, .int token, .int value, .int error, .int errorAt, .int number, .ref a21, .ref a22, .ref a23, .ref a24, .ref a25, .int undos, .ref a26, .ref a27, .ref a28])), (a2, .inl (kc 1, 2, .inl regions)), (a14, .inl (kc 1, 2, .inl balloons)), (a1, .inl (kc 1, 213, .inl now))]
set_option maxHeartbeats 4000000 in
set_option maxRecDepth 100000 in
theorem c_X9_balloonsIn (l : Launch) (D : va_G) (kc : Nat → ClassId) (N : Nat) (a0 a1 a2 a3 a4 a5 a6 a7 a8 a9 a10 a11 a12 a13 a14 a15 a16 a17 a18 a19 a20 a21 a22 a23 a24 a25 a26 a27 a28 : Nat) (thrown : Int32) (loftSize : Int32) (startWind : Int32) (seed : Int32) (draftLoft : Int32) (draftStart : Int32) (draftSeed : Int32) (length : Int32) (textSize : Int32) (start : Int32) (next_ : Int32) (token : Int32) (value : Int32) (error : Int32) (errorAt : Int32) (number : Int32) (undos : Int32) (regions : Nat → Int32) (balloons : Nat → Int32) (now : Nat → Int32) (x1 : Int32) (r_ : Int32) (thrown' : Int32) (hf : f_X9_balloonsIn N regions balloons now x1 = some (r_, thrown')) : MI l yX9_balloonsIn wsX9_balloonsIn ({ frames := 1, cells := 0, slots := 0, locals := 22 }) D kc [.ref a0, .int x1] (w_X9_balloonsIn kc a0 a1 a2 a3 a4 a5 a6 a7 a8 a9 a10 a11 a12 a13 a14 a15 a16 a17 a18 a19 a20 a21 a22 a23 a24 a25 a26 a27 a28 thrown loftSize startWind seed draftLoft draftStart draftSeed length textSize start next_ token value error errorAt number undos regions balloons now) (w_X9_balloonsIn kc a0 a1 a2 a3 a4 a5 a6 a7 a8 a9 a10 a11 a12 a13 a14 a15 a16 a17 a18 a19 a20 a21 a22 a23 a24 a25 a26 a27 a28 thrown' loftSize startWind seed draftLoft draftStart draftSeed length textSize start next_ token value error errorAt number undos regions balloons now) r_ := by
  refine gM_I (cc := cX9_balloonsIn) (maxL := 4) (by decide) rfl (Nat.le_of_ble_eq_true rfl) ?_
  intro p e s m below meth c A ls Q hx hb hml hown hts hN hK hP hD hA hl kR
  have hS : va_S A s.heap s.heap [] := va_S.rf
  have hl : lv_has ls 4 [(0, .ref a0), (1, .int x1)] := hl
  have in_X9 : ∀ w ∈ u_ws RX9 TX9 45, w ∈ wsX9_balloonsIn := by decide +kernel
  have lk_1 := hts (.fieldLink RX9 1 "BalloonMailModel" "thrown" "I") (by decide +kernel)
  have lk_17 := hts (.fieldLink RX9 17 "BalloonMailModel" "regions" "[I") (by decide +kernel)
  have lk_53 := hts (.fieldLink RX9 53 "BalloonMailModel" "balloons" "[I") (by decide +kernel)
  have lk_13 := hts (.fieldLink RX9 13 "BalloonMailModel" "now" "[I") (by decide +kernel)
  unfold f_X9_balloonsIn at hf
  refine lv_aload_n hx hb dX9_balloonsIn_0 rfl (lv_at hl 0 rfl) ?_
  refine lv_iconst (v := 0) hx hb dX9_balloonsIn_1 (by decide) ?_
  refine va_put (D := D) (ci := 9) (v := .int 0) (ty := .int) (C := RX9) (T := TX9) (N := 45) hx hb hts in_X9 tyX9 tyX9_ok nmX9 hown hK hP hD hS 0 rfl rfl 0 (by decide) lk_1 (fun _ h9 => h9) rfl (by decide +kernel) rfl rfl (Nat.le_of_ble_eq_true rfl) dX9_balloonsIn_2 (fun H locs hP hD hS => ?_)
  have hP : va_P D vwCl (w_X9_balloonsIn kc a0 a1 a2 a3 a4 a5 a6 a7 a8 a9 a10 a11 a12 a13 a14 a15 a16 a17 a18 a19 a20 a21 a22 a23 a24 a25 a26 a27 a28 0 loftSize startWind seed draftLoft draftStart draftSeed length textSize start next_ token value error errorAt number undos regions balloons now) H := hP
  have hD : va_D A (w_X9_balloonsIn kc a0 a1 a2 a3 a4 a5 a6 a7 a8 a9 a10 a11 a12 a13 a14 a15 a16 a17 a18 a19 a20 a21 a22 a23 a24 a25 a26 a27 a28 0 loftSize startWind seed draftLoft draftStart draftSeed length textSize start next_ token value error errorAt number undos regions balloons now) := hD
  refine lv_iload_n hx hb dX9_balloonsIn_5 rfl (lv_at hl 1 rfl) ?_
  refine lv_iconst (v := 0) hx hb dX9_balloonsIn_6 (by decide) ?_
  refine lv_aload_n hx hb dX9_balloonsIn_7 rfl (lv_at hl 0 rfl) ?_
  refine va_get (D := D) (ci := 9) (v := .ref a2) (C := RX9) (T := TX9) (N := 45) hx hb hts in_X9 hown hK hP 0 rfl rfl 2 (by decide) lk_17 (fun _ h9 => h9) rfl dX9_balloonsIn_8 ?_
  refine lv_iconst (v := 0) hx hb dX9_balloonsIn_11 (by decide) ?_
  obtain ⟨hi, hf⟩ := gIx_some hf
  refine va_iald hx hb hK hP 1 1 rfl rfl hi dX9_balloonsIn_12 ?_
  refine lv_iconst (v := 1) hx hb dX9_balloonsIn_13 (by decide) ?_
  refine lv_isub hx hb dX9_balloonsIn_14 ?_
  obtain ⟨r_1, hc, hf⟩ := ob1_some hf
  refine g_SZ (As := [.int x1, .int 0, .int ((regions (0 : Int32).toNatClampNeg) - 1)]) (rest := []) (ws' := (w_X9_balloonsIn kc a0 a1 a2 a3 a4 a5 a6 a7 a8 a9 a10 a11 a12 a13 a14 a15 a16 a17 a18 a19 a20 a21 a22 a23 a24 a25 a26 a27 a28 0 loftSize startWind seed draftLoft draftStart draftSeed length textSize start next_ token value error errorAt number undos regions balloons now)) ⟨hx, hb, hml, hown, hts⟩ hN hK hP hD hS hA (c_X9_within l D kc N x1 0 ((regions (0 : Int32).toNatClampNeg) - 1) r_1 hc) (va_cwS 3 hts gX9_balloonsIn_X9_within rfl rfl rfl (by decide +kernel) ⟨Nat.le_of_ble_eq_true rfl, Nat.le_of_ble_eq_true rfl⟩) [] [0, 1, 2, 3] [0, 1, 2, 3] (by exact ⟨rfl, rfl, by decide, rfl⟩) rfl hl.1 rfl (Nat.le_of_ble_eq_true rfl) dX9_balloonsIn_15 ⟨Nat.le_refl _, Nat.le_refl _⟩ (fun H locs hz hP hD hS => ?_)
  have hz_2 := hz
  refine lv_if_ne (tgt := 23) hx hb dX9_balloonsIn_18 (by decide) (fun hc => ?_) (fun hc => ?_)
  · have hf := o_f hc hf
    refine lv_iconst (v := 0) hx hb dX9_balloonsIn_23 (by decide) ?_
    refine lv_istore_n (lv' := [(2, .int 0), (0, .ref a0), (1, .int x1)]) hx hb dX9_balloonsIn_24 rfl hl (by decide) rfl (fun ls hl => ?_)
    refine lv_iconst (v := 0) hx hb dX9_balloonsIn_25 (by decide) ?_
    refine lv_istore_n (lv' := [(3, .int 0), (2, .int 0), (0, .ref a0), (1, .int x1)]) hx hb dX9_balloonsIn_26 rfl hl (by decide) rfl (fun ls hl => ?_)
    have L27 : ∀ (thrown_f27 : Int32) (n : Nat) (y3_27 : Int32) (y2_27 : Int32) (y3_27o : Int32) (y2_27o : Int32), f_X9_balloonsIn_27 N balloons now x1 n y3_27 y2_27 = some (y3_27o, y2_27o) → (∀ (H : Heap) (locs : List Loc) (ls : Array Slot), va_P D vwCl (w_X9_balloonsIn kc a0 a1 a2 a3 a4 a5 a6 a7 a8 a9 a10 a11 a12 a13 a14 a15 a16 a17 a18 a19 a20 a21 a22 a23 a24 a25 a26 a27 a28 thrown_f27 loftSize startWind seed draftLoft draftStart draftSeed length textSize start next_ token value error errorAt number undos regions balloons now) H → va_D A (w_X9_balloonsIn kc a0 a1 a2 a3 a4 a5 a6 a7 a8 a9 a10 a11 a12 a13 a14 a15 a16 a17 a18 a19 a20 a21 a22 a23 a24 a25 a26 a27 a28 thrown_f27 loftSize startWind seed draftLoft draftStart draftSeed length textSize start next_ token value error errorAt number undos regions balloons now) → va_S A s.heap H locs → lv_has ls 4 [(0, .ref a0), (1, .int x1), (2, .int y2_27o), (3, .int y3_27o)] → W p l e ({ frames := 1, cells := 0, slots := 0, locals := 22 }) s m (([.ref a0, .int x1] : List Value).toArray) below meth c H locs 0 0 Q (F0 m 64 ls [])) → ∀ (H : Heap) (locs : List Loc) (ls : Array Slot), va_P D vwCl (w_X9_balloonsIn kc a0 a1 a2 a3 a4 a5 a6 a7 a8 a9 a10 a11 a12 a13 a14 a15 a16 a17 a18 a19 a20 a21 a22 a23 a24 a25 a26 a27 a28 thrown_f27 loftSize startWind seed draftLoft draftStart draftSeed length textSize start next_ token value error errorAt number undos regions balloons now) H → va_D A (w_X9_balloonsIn kc a0 a1 a2 a3 a4 a5 a6 a7 a8 a9 a10 a11 a12 a13 a14 a15 a16 a17 a18 a19 a20 a21 a22 a23 a24 a25 a26 a27 a28 thrown_f27 loftSize startWind seed draftLoft draftStart draftSeed length textSize start next_ token value error errorAt number undos regions balloons now) → va_S A s.heap H locs → lv_has ls 4 [(0, .ref a0), (1, .int x1), (2, .int y2_27), (3, .int y3_27)] → W p l e ({ frames := 1, cells := 0, slots := 0, locals := 22 }) s m (([.ref a0, .int x1] : List Value).toArray) below meth c H locs 0 0 Q (F0 m 27 ls []) := by
      intro thrown_f27 n
      induction n with
      | zero => intro _ _ _ _ hf; rw [f_X9_balloonsIn_27.eq_1] at hf; cases hf
      | succ n ih =>
        intro y3_27 y2_27 y3_27o y2_27o hf hk H locs ls hP hD hS hl
        rw [f_X9_balloonsIn_27.eq_2] at hf
        refine lv_iload_n hx hb dX9_balloonsIn_27 rfl (lv_at hl 3 rfl) ?_
        refine lv_aload_n hx hb dX9_balloonsIn_28 rfl (lv_at hl 0 rfl) ?_
        refine va_get (D := D) (ci := 9) (v := .ref a14) (C := RX9) (T := TX9) (N := 45) hx hb hts in_X9 hown hK hP 0 rfl rfl 14 (by decide) lk_53 (fun _ h9 => h9) rfl dX9_balloonsIn_29 ?_
        refine lv_iconst (v := 0) hx hb dX9_balloonsIn_32 (by decide) ?_
        obtain ⟨hi, hf⟩ := gIx_some hf
        refine va_iald hx hb hK hP 2 1 rfl rfl hi dX9_balloonsIn_33 ?_
        refine lv_icmp_ge (tgt := 64) hx hb dX9_balloonsIn_34 (by decide) (fun hc => ?_) (fun hc => ?_)
        · have hf := o_t hc hf
          cases hf
          exact hk _ _ _ hP hD hS (lv_sub hl [0, 1, 2, 3] rfl)
        · have hf := o_f hc hf
          refine lv_iload_n hx hb dX9_balloonsIn_37 rfl (lv_at hl 2 rfl) ?_
          refine lv_aload_n hx hb dX9_balloonsIn_38 rfl (lv_at hl 0 rfl) ?_
          refine va_get (D := D) (ci := 9) (v := .ref a1) (C := RX9) (T := TX9) (N := 45) hx hb hts in_X9 hown hK hP 0 rfl rfl 1 (by decide) lk_13 (fun _ h9 => h9) rfl dX9_balloonsIn_39 ?_
          refine lv_bipush (v := 15) hx hb dX9_balloonsIn_42 (by decide) ?_
          refine lv_iload_n hx hb dX9_balloonsIn_44 rfl (lv_at hl 3 rfl) ?_
          refine lv_iadd hx hb dX9_balloonsIn_45 ?_
          obtain ⟨hi, hf⟩ := gIx_some hf
          refine va_iald hx hb hK hP 3 1 rfl rfl hi dX9_balloonsIn_46 ?_
          refine lv_iload_n hx hb dX9_balloonsIn_47 rfl (lv_at hl 1 rfl) ?_
          refine lv_icmp_ne (tgt := 55) hx hb dX9_balloonsIn_48 (by decide) (fun hc => ?_) (fun hc => ?_)
          · have hf := o_f hc hf
            refine lv_iconst (v := 0) hx hb dX9_balloonsIn_55 (by decide) ?_
            refine lv_iadd hx hb dX9_balloonsIn_56 ?_
            refine lv_istore_n (lv' := [(2, .int (y2_27 + 0)), (0, .ref a0), (1, .int x1), (3, .int y3_27)]) hx hb dX9_balloonsIn_57 rfl hl (by decide) rfl (fun ls hl => ?_)
            refine lv_iinc (v := (y3_27 + 1)) (lv' := [(3, .int (y3_27 + 1)), (2, .int (y2_27 + 0)), (0, .ref a0), (1, .int x1)]) hx hb dX9_balloonsIn_58 hl (k := 3) rfl (by rfl) (by decide) rfl (fun ls hl => ?_)
            refine lv_goto (tgt := 27) hx hb dX9_balloonsIn_61 (by decide) ?_
            exact ih _ _ _ _ hf hk _ _ _ hP hD hS (lv_sub hl [2, 3, 1, 0] rfl)
          · have hf := o_t hc hf
            refine lv_iconst (v := 1) hx hb dX9_balloonsIn_51 (by decide) ?_
            refine lv_goto (tgt := 56) hx hb dX9_balloonsIn_52 (by decide) ?_
            refine lv_iadd hx hb dX9_balloonsIn_56 ?_
            refine lv_istore_n (lv' := [(2, .int (y2_27 + 1)), (0, .ref a0), (1, .int x1), (3, .int y3_27)]) hx hb dX9_balloonsIn_57 rfl hl (by decide) rfl (fun ls hl => ?_)
            refine lv_iinc (v := (y3_27 + 1)) (lv' := [(3, .int (y3_27 + 1)), (2, .int (y2_27 + 1)), (0, .ref a0), (1, .int x1)]) hx hb dX9_balloonsIn_58 hl (k := 3) rfl (by rfl) (by decide) rfl (fun ls hl => ?_)
            refine lv_goto (tgt := 27) hx hb dX9_balloonsIn_61 (by decide) ?_
            exact ih _ _ _ _ hf hk _ _ _ hP hD hS (lv_sub hl [2, 3, 1, 0] rfl)
    obtain ⟨y3_27o, y2_27o, hc, hf⟩ := ob2_some hf
    refine L27 0 N _ _ _ _ hc (fun H locs ls hP hD hS hl => ?_) _ _ _ hP hD hS (lv_sub hl [2, 3, 1, 0] rfl)
    refine lv_iload_n hx hb dX9_balloonsIn_64 rfl (lv_at hl 2 rfl) ?_
    cases hf
    exact kR _ _ _ _ hP hD hS dX9_balloonsIn_65
  · have hf := o_t hc hf
    refine lv_iconst (v := (-1)) hx hb dX9_balloonsIn_21 (by decide) ?_
    cases hf
    exact kR _ _ _ _ hP hD hS dX9_balloonsIn_22
abbrev w_X9_eventCount (kc : Nat → ClassId) (a0 a1 a2 a3 a4 a5 a6 a7 a8 a9 a10 a11 a12 a13 a14 a15 a16 a17 a18 a19 a20 a21 a22 a23 a24 a25 a26 a27 a28 : Nat) (thrown : Int32) (loftSize : Int32) (startWind : Int32) (seed : Int32) (draftLoft : Int32) (draftStart : Int32) (draftSeed : Int32) (length : Int32) (textSize : Int32) (start : Int32) (next_ : Int32) (token : Int32) (value : Int32) (error : Int32) (errorAt : Int32) (number : Int32) (undos : Int32) (now : Nat → Int32) : va_W := [(a0, .inr (9, [.int thrown, .ref a1, .ref a2, .ref a3, .ref a4, .ref a5, .ref a6, .ref a7, .ref a8, .ref a9, .ref a10, .ref a11, .ref a12, .ref a13, .ref a14, .ref a15, .ref a16, .ref a17, .ref a18, .ref a19, .int loftSize, .int startWind, .int seed, .int draftLoft, .int draftStart, .int draftSeed, .ref a20, .int length, .int textSize, .int start, .int next_, .int token, .int value, .int error, .int errorAt, .int number, .ref a21, .ref a22, .ref a23, .ref a24, .ref a25, .int undos, .ref a26, .ref a27, .ref a28])), (a1, .inl (kc 1, 213, .inl now))]
set_option maxHeartbeats 4000000 in
set_option maxRecDepth 100000 in
theorem c_X9_eventCount (l : Launch) (D : va_G) (kc : Nat → ClassId) (N : Nat) (a0 a1 a2 a3 a4 a5 a6 a7 a8 a9 a10 a11 a12 a13 a14 a15 a16 a17 a18 a19 a20 a21 a22 a23 a24 a25 a26 a27 a28 : Nat) (thrown : Int32) (loftSize : Int32) (startWind : Int32) (seed : Int32) (draftLoft : Int32) (draftStart : Int32) (draftSeed : Int32) (length : Int32) (textSize : Int32) (start : Int32) (next_ : Int32) (token : Int32) (value : Int32) (error : Int32) (errorAt : Int32) (number : Int32) (undos : Int32) (now : Nat → Int32) (r_ : Int32) (thrown' : Int32) (hf : f_X9_eventCount N now = some (r_, thrown')) : MI l yX9_eventCount wsX9_eventCount ({ frames := 0, cells := 0, slots := 0, locals := 0 }) D kc [.ref a0] (w_X9_eventCount kc a0 a1 a2 a3 a4 a5 a6 a7 a8 a9 a10 a11 a12 a13 a14 a15 a16 a17 a18 a19 a20 a21 a22 a23 a24 a25 a26 a27 a28 thrown loftSize startWind seed draftLoft draftStart draftSeed length textSize start next_ token value error errorAt number undos now) (w_X9_eventCount kc a0 a1 a2 a3 a4 a5 a6 a7 a8 a9 a10 a11 a12 a13 a14 a15 a16 a17 a18 a19 a20 a21 a22 a23 a24 a25 a26 a27 a28 thrown' loftSize startWind seed draftLoft draftStart draftSeed length textSize start next_ token value error errorAt number undos now) r_ := by
  refine gM_I (cc := cX9_eventCount) (maxL := 1) (by decide) rfl (Nat.le_of_ble_eq_true rfl) ?_
  intro p e s m below meth c A ls Q hx hb hml hown hts hN hK hP hD hA hl kR
  have hS : va_S A s.heap s.heap [] := va_S.rf
  have hl : lv_has ls 1 [(0, .ref a0)] := hl
  have in_X9 : ∀ w ∈ u_ws RX9 TX9 45, w ∈ wsX9_eventCount := by decide +kernel
  have lk_1 := hts (.fieldLink RX9 1 "BalloonMailModel" "thrown" "I") (by decide +kernel)
  have lk_13 := hts (.fieldLink RX9 13 "BalloonMailModel" "now" "[I") (by decide +kernel)
  unfold f_X9_eventCount at hf
  refine lv_aload_n hx hb dX9_eventCount_0 rfl (lv_at hl 0 rfl) ?_
  refine lv_iconst (v := 0) hx hb dX9_eventCount_1 (by decide) ?_
  refine va_put (D := D) (ci := 9) (v := .int 0) (ty := .int) (C := RX9) (T := TX9) (N := 45) hx hb hts in_X9 tyX9 tyX9_ok nmX9 hown hK hP hD hS 0 rfl rfl 0 (by decide) lk_1 (fun _ h9 => h9) rfl (by decide +kernel) rfl rfl (Nat.le_of_ble_eq_true rfl) dX9_eventCount_2 (fun H locs hP hD hS => ?_)
  have hP : va_P D vwCl (w_X9_eventCount kc a0 a1 a2 a3 a4 a5 a6 a7 a8 a9 a10 a11 a12 a13 a14 a15 a16 a17 a18 a19 a20 a21 a22 a23 a24 a25 a26 a27 a28 0 loftSize startWind seed draftLoft draftStart draftSeed length textSize start next_ token value error errorAt number undos now) H := hP
  have hD : va_D A (w_X9_eventCount kc a0 a1 a2 a3 a4 a5 a6 a7 a8 a9 a10 a11 a12 a13 a14 a15 a16 a17 a18 a19 a20 a21 a22 a23 a24 a25 a26 a27 a28 0 loftSize startWind seed draftLoft draftStart draftSeed length textSize start next_ token value error errorAt number undos now) := hD
  refine lv_aload_n hx hb dX9_eventCount_5 rfl (lv_at hl 0 rfl) ?_
  refine va_get (D := D) (ci := 9) (v := .ref a1) (C := RX9) (T := TX9) (N := 45) hx hb hts in_X9 hown hK hP 0 rfl rfl 1 (by decide) lk_13 (fun _ h9 => h9) rfl dX9_eventCount_6 ?_
  refine lv_sipush (v := 164) hx hb dX9_eventCount_9 (by decide) ?_
  obtain ⟨hi, hf⟩ := gIx_some hf
  refine va_iald hx hb hK hP 1 1 rfl rfl hi dX9_eventCount_12 ?_
  cases hf
  exact kR _ _ _ _ hP hD hS dX9_eventCount_13
abbrev w_X9_event (kc : Nat → ClassId) (a0 a1 a2 a3 a4 a5 a6 a7 a8 a9 a10 a11 a12 a13 a14 a15 a16 a17 a18 a19 a20 a21 a22 a23 a24 a25 a26 a27 a28 : Nat) (thrown : Int32) (loftSize : Int32) (startWind : Int32) (seed : Int32) (draftLoft : Int32) (draftStart : Int32) (draftSeed : Int32) (length : Int32) (textSize : Int32) (start : Int32) (next_ : Int32) (token : Int32) (value : Int32) (error : Int32) (errorAt : Int32) (number : Int32) (undos : Int32) (now : Nat → Int32) : va_W := [(a0, .inr (9, [.int thrown, .ref a1, .ref a2, .ref a3, .ref a4, .ref a5, .ref a6, .ref a7, .ref a8, .ref a9, .ref a10, .ref a11, .ref a12, .ref a13, .ref a14, .ref a15, .ref a16, .ref a17, .ref a18, .ref a19, .int loftSize, .int startWind, .int seed, .int draftLoft, .int draftStart, .int draftSeed, .ref a20, .int length, .int textSize, .int start, .int next_, .int token, .int value, .int error, .int errorAt, .int number, .ref a21, .ref a22, .ref a23, .ref a24, .ref a25, .int undos, .ref a26, .ref a27, .ref a28])), (a1, .inl (kc 1, 213, .inl now))]
set_option maxHeartbeats 4000000 in
set_option maxRecDepth 100000 in
theorem c_X9_event (l : Launch) (D : va_G) (kc : Nat → ClassId) (N : Nat) (a0 a1 a2 a3 a4 a5 a6 a7 a8 a9 a10 a11 a12 a13 a14 a15 a16 a17 a18 a19 a20 a21 a22 a23 a24 a25 a26 a27 a28 : Nat) (thrown : Int32) (loftSize : Int32) (startWind : Int32) (seed : Int32) (draftLoft : Int32) (draftStart : Int32) (draftSeed : Int32) (length : Int32) (textSize : Int32) (start : Int32) (next_ : Int32) (token : Int32) (value : Int32) (error : Int32) (errorAt : Int32) (number : Int32) (undos : Int32) (now : Nat → Int32) (x1 : Int32) (x2 : Int32) (r_ : Int32) (thrown' : Int32) (hf : f_X9_event N now x1 x2 = some (r_, thrown')) : MI l yX9_event wsX9_event ({ frames := 1, cells := 0, slots := 0, locals := 22 }) D kc [.ref a0, .int x1, .int x2] (w_X9_event kc a0 a1 a2 a3 a4 a5 a6 a7 a8 a9 a10 a11 a12 a13 a14 a15 a16 a17 a18 a19 a20 a21 a22 a23 a24 a25 a26 a27 a28 thrown loftSize startWind seed draftLoft draftStart draftSeed length textSize start next_ token value error errorAt number undos now) (w_X9_event kc a0 a1 a2 a3 a4 a5 a6 a7 a8 a9 a10 a11 a12 a13 a14 a15 a16 a17 a18 a19 a20 a21 a22 a23 a24 a25 a26 a27 a28 thrown' loftSize startWind seed draftLoft draftStart draftSeed length textSize start next_ token value error errorAt number undos now) r_ := by
  refine gM_I (cc := cX9_event) (maxL := 3) (by decide) rfl (Nat.le_of_ble_eq_true rfl) ?_
  intro p e s m below meth c A ls Q hx hb hml hown hts hN hK hP hD hA hl kR
  have hS : va_S A s.heap s.heap [] := va_S.rf
  have hl : lv_has ls 3 [(0, .ref a0), (1, .int x1), (2, .int x2)] := hl
  have in_X9 : ∀ w ∈ u_ws RX9 TX9 45, w ∈ wsX9_event := by decide +kernel
  have lk_13 := hts (.fieldLink RX9 13 "BalloonMailModel" "now" "[I") (by decide +kernel)
  have lk_1 := hts (.fieldLink RX9 1 "BalloonMailModel" "thrown" "I") (by decide +kernel)
  have J24 : ∀ (k1_24 : Int32), f_X9_event_j24 N now x1 x2 k1_24 = some (r_, thrown') → ∀ (H : Heap) (locs : List Loc) (ls : Array Slot), va_P D vwCl (w_X9_event kc a0 a1 a2 a3 a4 a5 a6 a7 a8 a9 a10 a11 a12 a13 a14 a15 a16 a17 a18 a19 a20 a21 a22 a23 a24 a25 a26 a27 a28 thrown loftSize startWind seed draftLoft draftStart draftSeed length textSize start next_ token value error errorAt number undos now) H → va_D A (w_X9_event kc a0 a1 a2 a3 a4 a5 a6 a7 a8 a9 a10 a11 a12 a13 a14 a15 a16 a17 a18 a19 a20 a21 a22 a23 a24 a25 a26 a27 a28 thrown loftSize startWind seed draftLoft draftStart draftSeed length textSize start next_ token value error errorAt number undos now) → va_S A s.heap H locs → lv_has ls 3 [(0, .ref a0), (1, .int x1), (2, .int x2)] → W p l e ({ frames := 1, cells := 0, slots := 0, locals := 22 }) s m (([.ref a0, .int x1, .int x2] : List Value).toArray) below meth c H locs 0 0 Q (F0 m 24 ls [.int k1_24, .ref a0]) := by
    clear hf
    intro k1_24 hf H locs ls hP hD hS hl
    unfold f_X9_event_j24 at hf
    refine va_put (D := D) (ci := 9) (v := .int k1_24) (ty := .int) (C := RX9) (T := TX9) (N := 45) hx hb hts in_X9 tyX9 tyX9_ok nmX9 hown hK hP hD hS 0 rfl rfl 0 (by decide) lk_1 (fun _ h9 => h9) rfl (by decide +kernel) rfl rfl (Nat.le_of_ble_eq_true rfl) dX9_event_24 (fun H locs hP hD hS => ?_)
    have hP : va_P D vwCl (w_X9_event kc a0 a1 a2 a3 a4 a5 a6 a7 a8 a9 a10 a11 a12 a13 a14 a15 a16 a17 a18 a19 a20 a21 a22 a23 a24 a25 a26 a27 a28 k1_24 loftSize startWind seed draftLoft draftStart draftSeed length textSize start next_ token value error errorAt number undos now) H := hP
    have hD : va_D A (w_X9_event kc a0 a1 a2 a3 a4 a5 a6 a7 a8 a9 a10 a11 a12 a13 a14 a15 a16 a17 a18 a19 a20 a21 a22 a23 a24 a25 a26 a27 a28 k1_24 loftSize startWind seed draftLoft draftStart draftSeed length textSize start next_ token value error errorAt number undos now) := hD
    refine lv_aload_n hx hb dX9_event_27 rfl (lv_at hl 0 rfl) ?_
    refine va_get (D := D) (ci := 9) (v := .int k1_24) (C := RX9) (T := TX9) (N := 45) hx hb hts in_X9 hown hK hP 0 rfl rfl 0 (by decide) lk_1 (fun _ h9 => h9) rfl dX9_event_28 ?_
    refine lv_if_le (tgt := 38) hx hb dX9_event_31 (by decide) (fun hc => ?_) (fun hc => ?_)
    · have hf := o_t hc hf
      refine lv_aload_n hx hb dX9_event_38 rfl (lv_at hl 0 rfl) ?_
      refine va_get (D := D) (ci := 9) (v := .ref a1) (C := RX9) (T := TX9) (N := 45) hx hb hts in_X9 hown hK hP 0 rfl rfl 1 (by decide) lk_13 (fun _ h9 => h9) rfl dX9_event_39 ?_
      refine lv_iload_n hx hb dX9_event_42 rfl (lv_at hl 1 rfl) ?_
      refine lv_iload_n hx hb dX9_event_43 rfl (lv_at hl 2 rfl) ?_
      refine lv_iadd hx hb dX9_event_44 ?_
      obtain ⟨hi, hf⟩ := gIx_some hf
      refine va_iald hx hb hK hP 1 1 rfl rfl hi dX9_event_45 ?_
      cases hf
      exact kR _ _ _ _ hP hD hS dX9_event_46
    · have hf := o_f hc hf
      refine lv_iconst (v := 0) hx hb dX9_event_34 (by decide) ?_
      refine lv_goto (tgt := 46) hx hb dX9_event_35 (by decide) ?_
      cases hf
      exact kR _ _ _ _ hP hD hS dX9_event_46
  unfold f_X9_event at hf
  refine lv_aload_n hx hb dX9_event_0 rfl (lv_at hl 0 rfl) ?_
  refine lv_iload_n hx hb dX9_event_1 rfl (lv_at hl 2 rfl) ?_
  refine lv_iconst (v := 0) hx hb dX9_event_2 (by decide) ?_
  refine lv_aload_n hx hb dX9_event_3 rfl (lv_at hl 0 rfl) ?_
  refine va_get (D := D) (ci := 9) (v := .ref a1) (C := RX9) (T := TX9) (N := 45) hx hb hts in_X9 hown hK hP 0 rfl rfl 1 (by decide) lk_13 (fun _ h9 => h9) rfl dX9_event_4 ?_
  refine lv_sipush (v := 164) hx hb dX9_event_7 (by decide) ?_
  obtain ⟨hi, hf⟩ := gIx_some hf
  refine va_iald hx hb hK hP 1 1 rfl rfl hi dX9_event_10 ?_
  refine lv_iconst (v := 1) hx hb dX9_event_11 (by decide) ?_
  refine lv_isub hx hb dX9_event_12 ?_
  obtain ⟨r_1, hc, hf⟩ := ob1_some hf
  refine g_SZ (As := [.int x2, .int 0, .int ((now (164 : Int32).toNatClampNeg) - 1)]) (rest := [.ref a0]) (ws' := (w_X9_event kc a0 a1 a2 a3 a4 a5 a6 a7 a8 a9 a10 a11 a12 a13 a14 a15 a16 a17 a18 a19 a20 a21 a22 a23 a24 a25 a26 a27 a28 thrown loftSize startWind seed draftLoft draftStart draftSeed length textSize start next_ token value error errorAt number undos now)) ⟨hx, hb, hml, hown, hts⟩ hN hK hP hD hS hA (c_X9_within l D kc N x2 0 ((now (164 : Int32).toNatClampNeg) - 1) r_1 hc) (va_cwS 3 hts gX9_event_X9_within rfl rfl rfl (by decide +kernel) ⟨Nat.le_of_ble_eq_true rfl, Nat.le_of_ble_eq_true rfl⟩) [] [0, 1] [0, 1] (by exact ⟨rfl, rfl, by decide, rfl⟩) rfl hl.1 rfl (Nat.le_of_ble_eq_true rfl) dX9_event_13 ⟨Nat.le_refl _, Nat.le_refl _⟩ (fun H locs hz hP hD hS => ?_)
  have hz_2 := hz
  refine lv_if_eq (tgt := 23) hx hb dX9_event_16 (by decide) (fun hc => ?_) (fun hc => ?_)
  · have hf := o_t hc hf
    refine lv_iconst (v := 1) hx hb dX9_event_23 (by decide) ?_
    exact J24 _ hf _ _ _ hP hD hS (lv_sub hl [0, 1, 2] rfl)
  · have hf := o_f hc hf
    refine lv_iconst (v := 0) hx hb dX9_event_19 (by decide) ?_
    refine lv_goto (tgt := 24) hx hb dX9_event_20 (by decide) ?_
    exact J24 _ hf _ _ _ hP hD hS (lv_sub hl [0, 1, 2] rfl)
abbrev w_X9_eventKind (kc : Nat → ClassId) (a0 a1 a2 a3 a4 a5 a6 a7 a8 a9 a10 a11 a12 a13 a14 a15 a16 a17 a18 a19 a20 a21 a22 a23 a24 a25 a26 a27 a28 : Nat) (thrown : Int32) (loftSize : Int32) (startWind : Int32) (seed : Int32) (draftLoft : Int32) (draftStart : Int32) (draftSeed : Int32) (length : Int32) (textSize : Int32) (start : Int32) (next_ : Int32) (token : Int32) (value : Int32) (error : Int32) (errorAt : Int32) (number : Int32) (undos : Int32) (now : Nat → Int32) : va_W := [(a0, .inr (9, [.int thrown, .ref a1, .ref a2, .ref a3, .ref a4, .ref a5, .ref a6, .ref a7, .ref a8, .ref a9, .ref a10, .ref a11, .ref a12, .ref a13, .ref a14, .ref a15, .ref a16, .ref a17, .ref a18, .ref a19, .int loftSize, .int startWind, .int seed, .int draftLoft, .int draftStart, .int draftSeed, .ref a20, .int length, .int textSize, .int start, .int next_, .int token, .int value, .int error, .int errorAt, .int number, .ref a21, .ref a22, .ref a23, .ref a24, .ref a25, .int undos, .ref a26, .ref a27, .ref a28])), (a1, .inl (kc 1, 213, .inl now))]
set_option maxHeartbeats 4000000 in
set_option maxRecDepth 100000 in
theorem c_X9_eventKind (l : Launch) (D : va_G) (kc : Nat → ClassId) (N : Nat) (a0 a1 a2 a3 a4 a5 a6 a7 a8 a9 a10 a11 a12 a13 a14 a15 a16 a17 a18 a19 a20 a21 a22 a23 a24 a25 a26 a27 a28 : Nat) (thrown : Int32) (loftSize : Int32) (startWind : Int32) (seed : Int32) (draftLoft : Int32) (draftStart : Int32) (draftSeed : Int32) (length : Int32) (textSize : Int32) (start : Int32) (next_ : Int32) (token : Int32) (value : Int32) (error : Int32) (errorAt : Int32) (number : Int32) (undos : Int32) (now : Nat → Int32) (x1 : Int32) (r_ : Int32) (thrown' : Int32) (hf : f_X9_eventKind N now x1 = some (r_, thrown')) : MI l yX9_eventKind wsX9_eventKind ({ frames := 2, cells := 0, slots := 0, locals := 44 }) D kc [.ref a0, .int x1] (w_X9_eventKind kc a0 a1 a2 a3 a4 a5 a6 a7 a8 a9 a10 a11 a12 a13 a14 a15 a16 a17 a18 a19 a20 a21 a22 a23 a24 a25 a26 a27 a28 thrown loftSize startWind seed draftLoft draftStart draftSeed length textSize start next_ token value error errorAt number undos now) (w_X9_eventKind kc a0 a1 a2 a3 a4 a5 a6 a7 a8 a9 a10 a11 a12 a13 a14 a15 a16 a17 a18 a19 a20 a21 a22 a23 a24 a25 a26 a27 a28 thrown' loftSize startWind seed draftLoft draftStart draftSeed length textSize start next_ token value error errorAt number undos now) r_ := by
  refine gM_I (cc := cX9_eventKind) (maxL := 2) (by decide) rfl (Nat.le_of_ble_eq_true rfl) ?_
  intro p e s m below meth c A ls Q hx hb hml hown hts hN hK hP hD hA hl kR
  have hS : va_S A s.heap s.heap [] := va_S.rf
  have hl : lv_has ls 2 [(0, .ref a0), (1, .int x1)] := hl
  unfold f_X9_eventKind at hf
  refine lv_aload_n hx hb dX9_eventKind_0 rfl (lv_at hl 0 rfl) ?_
  refine lv_sipush (v := 165) hx hb dX9_eventKind_1 (by decide) ?_
  refine lv_iload_n hx hb dX9_eventKind_4 rfl (lv_at hl 1 rfl) ?_
  obtain ⟨r_1, thrown_2, hc, hf⟩ := ob2_some hf
  refine g_VI (As := [.int 165, .int x1]) (rest := []) (ws' := (w_X9_eventKind kc a0 a1 a2 a3 a4 a5 a6 a7 a8 a9 a10 a11 a12 a13 a14 a15 a16 a17 a18 a19 a20 a21 a22 a23 a24 a25 a26 a27 a28 thrown_2 loftSize startWind seed draftLoft draftStart draftSeed length textSize start next_ token value error errorAt number undos now)) ⟨hx, hb, hml, hown, hts⟩ hN hK hP hD hS hA (c_X9_event l D kc N a0 a1 a2 a3 a4 a5 a6 a7 a8 a9 a10 a11 a12 a13 a14 a15 a16 a17 a18 a19 a20 a21 a22 a23 a24 a25 a26 a27 a28 thrown loftSize startWind seed draftLoft draftStart draftSeed length textSize start next_ token value error errorAt number undos now 165 x1 r_1 thrown_2 hc) (cwV 2 hts gX9_eventKind_X9_event rfl rfl rfl (by decide +kernel) ⟨Nat.le_of_ble_eq_true rfl, Nat.le_of_ble_eq_true rfl⟩) [0, 1] [] [0, 1] (by exact ⟨rfl, rfl, by decide, rfl⟩) 0 9 rfl rfl rfl rfl hl.1 rfl (Nat.le_of_ble_eq_true rfl) dX9_eventKind_5 ⟨Nat.le_refl _, Nat.le_refl _⟩ (fun H locs hP hD hS => ?_)
  cases hf
  exact kR _ _ _ _ hP hD hS dX9_eventKind_8
abbrev w_X9_eventNumber (kc : Nat → ClassId) (a0 a1 a2 a3 a4 a5 a6 a7 a8 a9 a10 a11 a12 a13 a14 a15 a16 a17 a18 a19 a20 a21 a22 a23 a24 a25 a26 a27 a28 : Nat) (thrown : Int32) (loftSize : Int32) (startWind : Int32) (seed : Int32) (draftLoft : Int32) (draftStart : Int32) (draftSeed : Int32) (length : Int32) (textSize : Int32) (start : Int32) (next_ : Int32) (token : Int32) (value : Int32) (error : Int32) (errorAt : Int32) (number : Int32) (undos : Int32) (now : Nat → Int32) : va_W := [(a0, .inr (9, [.int thrown, .ref a1, .ref a2, .ref a3, .ref a4, .ref a5, .ref a6, .ref a7, .ref a8, .ref a9, .ref a10, .ref a11, .ref a12, .ref a13, .ref a14, .ref a15, .ref a16, .ref a17, .ref a18, .ref a19, .int loftSize, .int startWind, .int seed, .int draftLoft, .int draftStart, .int draftSeed, .ref a20, .int length, .int textSize, .int start, .int next_, .int token, .int value, .int error, .int errorAt, .int number, .ref a21, .ref a22, .ref a23, .ref a24, .ref a25, .int undos, .ref a26, .ref a27, .ref a28])), (a1, .inl (kc 1, 213, .inl now))]
set_option maxHeartbeats 4000000 in
set_option maxRecDepth 100000 in
theorem c_X9_eventNumber (l : Launch) (D : va_G) (kc : Nat → ClassId) (N : Nat) (a0 a1 a2 a3 a4 a5 a6 a7 a8 a9 a10 a11 a12 a13 a14 a15 a16 a17 a18 a19 a20 a21 a22 a23 a24 a25 a26 a27 a28 : Nat) (thrown : Int32) (loftSize : Int32) (startWind : Int32) (seed : Int32) (draftLoft : Int32) (draftStart : Int32) (draftSeed : Int32) (length : Int32) (textSize : Int32) (start : Int32) (next_ : Int32) (token : Int32) (value : Int32) (error : Int32) (errorAt : Int32) (number : Int32) (undos : Int32) (now : Nat → Int32) (x1 : Int32) (r_ : Int32) (thrown' : Int32) (hf : f_X9_eventNumber N now x1 = some (r_, thrown')) : MI l yX9_eventNumber wsX9_eventNumber ({ frames := 2, cells := 0, slots := 0, locals := 44 }) D kc [.ref a0, .int x1] (w_X9_eventNumber kc a0 a1 a2 a3 a4 a5 a6 a7 a8 a9 a10 a11 a12 a13 a14 a15 a16 a17 a18 a19 a20 a21 a22 a23 a24 a25 a26 a27 a28 thrown loftSize startWind seed draftLoft draftStart draftSeed length textSize start next_ token value error errorAt number undos now) (w_X9_eventNumber kc a0 a1 a2 a3 a4 a5 a6 a7 a8 a9 a10 a11 a12 a13 a14 a15 a16 a17 a18 a19 a20 a21 a22 a23 a24 a25 a26 a27 a28 thrown' loftSize startWind seed draftLoft draftStart draftSeed length textSize start next_ token value error errorAt number undos now) r_ := by
  refine gM_I (cc := cX9_eventNumber) (maxL := 2) (by decide) rfl (Nat.le_of_ble_eq_true rfl) ?_
  intro p e s m below meth c A ls Q hx hb hml hown hts hN hK hP hD hA hl kR
  have hS : va_S A s.heap s.heap [] := va_S.rf
  have hl : lv_has ls 2 [(0, .ref a0), (1, .int x1)] := hl
  unfold f_X9_eventNumber at hf
  refine lv_aload_n hx hb dX9_eventNumber_0 rfl (lv_at hl 0 rfl) ?_
  refine lv_sipush (v := 181) hx hb dX9_eventNumber_1 (by decide) ?_
  refine lv_iload_n hx hb dX9_eventNumber_4 rfl (lv_at hl 1 rfl) ?_
  obtain ⟨r_1, thrown_2, hc, hf⟩ := ob2_some hf
  refine g_VI (As := [.int 181, .int x1]) (rest := []) (ws' := (w_X9_eventNumber kc a0 a1 a2 a3 a4 a5 a6 a7 a8 a9 a10 a11 a12 a13 a14 a15 a16 a17 a18 a19 a20 a21 a22 a23 a24 a25 a26 a27 a28 thrown_2 loftSize startWind seed draftLoft draftStart draftSeed length textSize start next_ token value error errorAt number undos now)) ⟨hx, hb, hml, hown, hts⟩ hN hK hP hD hS hA (c_X9_event l D kc N a0 a1 a2 a3 a4 a5 a6 a7 a8 a9 a10 a11 a12 a13 a14 a15 a16 a17 a18 a19 a20 a21 a22 a23 a24 a25 a26 a27 a28 thrown loftSize startWind seed draftLoft draftStart draftSeed length textSize start next_ token value error errorAt number undos now 181 x1 r_1 thrown_2 hc) (cwV 2 hts gX9_eventNumber_X9_event rfl rfl rfl (by decide +kernel) ⟨Nat.le_of_ble_eq_true rfl, Nat.le_of_ble_eq_true rfl⟩) [0, 1] [] [0, 1] (by exact ⟨rfl, rfl, by decide, rfl⟩) 0 9 rfl rfl rfl rfl hl.1 rfl (Nat.le_of_ble_eq_true rfl) dX9_eventNumber_5 ⟨Nat.le_refl _, Nat.le_refl _⟩ (fun H locs hP hD hS => ?_)
  cases hf
  exact kR _ _ _ _ hP hD hS dX9_eventNumber_8
abbrev w_X9_eventDay (kc : Nat → ClassId) (a0 a1 a2 a3 a4 a5 a6 a7 a8 a9 a10 a11 a12 a13 a14 a15 a16 a17 a18 a19 a20 a21 a22 a23 a24 a25 a26 a27 a28 : Nat) (thrown : Int32) (loftSize : Int32) (startWind : Int32) (seed : Int32) (draftLoft : Int32) (draftStart : Int32) (draftSeed : Int32) (length : Int32) (textSize : Int32) (start : Int32) (next_ : Int32) (token : Int32) (value : Int32) (error : Int32) (errorAt : Int32) (number : Int32) (undos : Int32) (now : Nat → Int32) : va_W := [(a0, .inr (9, [.int thrown, .ref a1, .ref a2, .ref a3, .ref a4, .ref a5, .ref a6, .ref a7, .ref a8, .ref a9, .ref a10, .ref a11, .ref a12, .ref a13, .ref a14, .ref a15, .ref a16, .ref a17, .ref a18, .ref a19, .int loftSize, .int startWind, .int seed, .int draftLoft, .int draftStart, .int draftSeed, .ref a20, .int length, .int textSize, .int start, .int next_, .int token, .int value, .int error, .int errorAt, .int number, .ref a21, .ref a22, .ref a23, .ref a24, .ref a25, .int undos, .ref a26, .ref a27, .ref a28])), (a1, .inl (kc 1, 213, .inl now))]
set_option maxHeartbeats 4000000 in
set_option maxRecDepth 100000 in
theorem c_X9_eventDay (l : Launch) (D : va_G) (kc : Nat → ClassId) (N : Nat) (a0 a1 a2 a3 a4 a5 a6 a7 a8 a9 a10 a11 a12 a13 a14 a15 a16 a17 a18 a19 a20 a21 a22 a23 a24 a25 a26 a27 a28 : Nat) (thrown : Int32) (loftSize : Int32) (startWind : Int32) (seed : Int32) (draftLoft : Int32) (draftStart : Int32) (draftSeed : Int32) (length : Int32) (textSize : Int32) (start : Int32) (next_ : Int32) (token : Int32) (value : Int32) (error : Int32) (errorAt : Int32) (number : Int32) (undos : Int32) (now : Nat → Int32) (x1 : Int32) (r_ : Int32) (thrown' : Int32) (hf : f_X9_eventDay N now x1 = some (r_, thrown')) : MI l yX9_eventDay wsX9_eventDay ({ frames := 2, cells := 0, slots := 0, locals := 44 }) D kc [.ref a0, .int x1] (w_X9_eventDay kc a0 a1 a2 a3 a4 a5 a6 a7 a8 a9 a10 a11 a12 a13 a14 a15 a16 a17 a18 a19 a20 a21 a22 a23 a24 a25 a26 a27 a28 thrown loftSize startWind seed draftLoft draftStart draftSeed length textSize start next_ token value error errorAt number undos now) (w_X9_eventDay kc a0 a1 a2 a3 a4 a5 a6 a7 a8 a9 a10 a11 a12 a13 a14 a15 a16 a17 a18 a19 a20 a21 a22 a23 a24 a25 a26 a27 a28 thrown' loftSize startWind seed draftLoft draftStart draftSeed length textSize start next_ token value error errorAt number undos now) r_ := by
  refine gM_I (cc := cX9_eventDay) (maxL := 2) (by decide) rfl (Nat.le_of_ble_eq_true rfl) ?_
  intro p e s m below meth c A ls Q hx hb hml hown hts hN hK hP hD hA hl kR
  have hS : va_S A s.heap s.heap [] := va_S.rf
  have hl : lv_has ls 2 [(0, .ref a0), (1, .int x1)] := hl
  unfold f_X9_eventDay at hf
  refine lv_aload_n hx hb dX9_eventDay_0 rfl (lv_at hl 0 rfl) ?_
  refine lv_sipush (v := 197) hx hb dX9_eventDay_1 (by decide) ?_
  refine lv_iload_n hx hb dX9_eventDay_4 rfl (lv_at hl 1 rfl) ?_
  obtain ⟨r_1, thrown_2, hc, hf⟩ := ob2_some hf
  refine g_VI (As := [.int 197, .int x1]) (rest := []) (ws' := (w_X9_eventDay kc a0 a1 a2 a3 a4 a5 a6 a7 a8 a9 a10 a11 a12 a13 a14 a15 a16 a17 a18 a19 a20 a21 a22 a23 a24 a25 a26 a27 a28 thrown_2 loftSize startWind seed draftLoft draftStart draftSeed length textSize start next_ token value error errorAt number undos now)) ⟨hx, hb, hml, hown, hts⟩ hN hK hP hD hS hA (c_X9_event l D kc N a0 a1 a2 a3 a4 a5 a6 a7 a8 a9 a10 a11 a12 a13 a14 a15 a16 a17 a18 a19 a20 a21 a22 a23 a24 a25 a26 a27 a28 thrown loftSize startWind seed draftLoft draftStart draftSeed length textSize start next_ token value error errorAt number undos now 197 x1 r_1 thrown_2 hc) (cwV 2 hts gX9_eventDay_X9_event rfl rfl rfl (by decide +kernel) ⟨Nat.le_of_ble_eq_true rfl, Nat.le_of_ble_eq_true rfl⟩) [0, 1] [] [0, 1] (by exact ⟨rfl, rfl, by decide, rfl⟩) 0 9 rfl rfl rfl rfl hl.1 rfl (Nat.le_of_ble_eq_true rfl) dX9_eventDay_5 ⟨Nat.le_refl _, Nat.le_refl _⟩ (fun H locs hP hD hS => ?_)
  cases hf
  exact kR _ _ _ _ hP hD hS dX9_eventDay_8
abbrev w_X9_undo (kc : Nat → ClassId) (a0 a1 a2 a3 a4 a5 a6 a7 a8 a9 a10 a11 a12 a13 a14 a15 a16 a17 a18 a19 a20 a21 a22 a23 a24 a25 a26 a27 a28 : Nat) (thrown : Int32) (loftSize : Int32) (startWind : Int32) (seed : Int32) (draftLoft : Int32) (draftStart : Int32) (draftSeed : Int32) (length : Int32) (textSize : Int32) (start : Int32) (next_ : Int32) (token : Int32) (value : Int32) (error : Int32) (errorAt : Int32) (number : Int32) (undos : Int32) (undo : Nat → Int32) (now : Nat → Int32) : va_W := [(a0, .inr (9, [.int thrown, .ref a1, .ref a2, .ref a3, .ref a4, .ref a5, .ref a6, .ref a7, .ref a8, .ref a9, .ref a10, .ref a11, .ref a12, .ref a13, .ref a14, .ref a15, .ref a16, .ref a17, .ref a18, .ref a19, .int loftSize, .int startWind, .int seed, .int draftLoft, .int draftStart, .int draftSeed, .ref a20, .int length, .int textSize, .int start, .int next_, .int token, .int value, .int error, .int errorAt, .int number, .ref a21, .ref a22, .ref a23, .ref a24, .ref a25, .int undos, .ref a26, .ref a27, .ref a28])), (a26, .inl (kc 1, 2556, .inl undo)), (a1, .inl (kc 1, 213, .inl now))]
set_option maxHeartbeats 4000000 in
set_option maxRecDepth 100000 in
theorem c_X9_undo (l : Launch) (D : va_G) (kc : Nat → ClassId) (N : Nat) (a0 a1 a2 a3 a4 a5 a6 a7 a8 a9 a10 a11 a12 a13 a14 a15 a16 a17 a18 a19 a20 a21 a22 a23 a24 a25 a26 a27 a28 : Nat) (thrown : Int32) (loftSize : Int32) (startWind : Int32) (seed : Int32) (draftLoft : Int32) (draftStart : Int32) (draftSeed : Int32) (length : Int32) (textSize : Int32) (start : Int32) (next_ : Int32) (token : Int32) (value : Int32) (error : Int32) (errorAt : Int32) (number : Int32) (undos : Int32) (undo : Nat → Int32) (now : Nat → Int32) (r_ : Int32) (thrown' : Int32) (undos' : Int32) (now' : Nat → Int32) (hf : f_X9_undo N undos undo now = some (r_, thrown', undos', now')) : MZ l yX9_undo wsX9_undo ({ frames := 1, cells := 0, slots := 0, locals := 25 }) D kc [.ref a0] (w_X9_undo kc a0 a1 a2 a3 a4 a5 a6 a7 a8 a9 a10 a11 a12 a13 a14 a15 a16 a17 a18 a19 a20 a21 a22 a23 a24 a25 a26 a27 a28 thrown loftSize startWind seed draftLoft draftStart draftSeed length textSize start next_ token value error errorAt number undos undo now) (w_X9_undo kc a0 a1 a2 a3 a4 a5 a6 a7 a8 a9 a10 a11 a12 a13 a14 a15 a16 a17 a18 a19 a20 a21 a22 a23 a24 a25 a26 a27 a28 thrown' loftSize startWind seed draftLoft draftStart draftSeed length textSize start next_ token value error errorAt number undos' undo now') r_ := by
  refine gM_Z (cc := cX9_undo) (maxL := 1) (by decide) rfl (Nat.le_of_ble_eq_true rfl) ?_
  intro p e s m below meth c A ls Q hx hb hml hown hts hN hK hP hD hA hl kR
  have hS : va_S A s.heap s.heap [] := va_S.rf
  have hl : lv_has ls 1 [(0, .ref a0)] := hl
  have in_X9 : ∀ w ∈ u_ws RX9 TX9 45, w ∈ wsX9_undo := by decide +kernel
  have lk_1 := hts (.fieldLink RX9 1 "BalloonMailModel" "thrown" "I") (by decide +kernel)
  have lk_243 := hts (.fieldLink RX9 243 "BalloonMailModel" "undos" "I") (by decide +kernel)
  have lk_94 := hts (.fieldLink RX9 94 "BalloonMailModel" "undo" "[I") (by decide +kernel)
  have lk_13 := hts (.fieldLink RX9 13 "BalloonMailModel" "now" "[I") (by decide +kernel)
  unfold f_X9_undo at hf
  refine lv_aload_n hx hb dX9_undo_0 rfl (lv_at hl 0 rfl) ?_
  refine lv_iconst (v := 0) hx hb dX9_undo_1 (by decide) ?_
  refine va_put (D := D) (ci := 9) (v := .int 0) (ty := .int) (C := RX9) (T := TX9) (N := 45) hx hb hts in_X9 tyX9 tyX9_ok nmX9 hown hK hP hD hS 0 rfl rfl 0 (by decide) lk_1 (fun _ h9 => h9) rfl (by decide +kernel) rfl rfl (Nat.le_of_ble_eq_true rfl) dX9_undo_2 (fun H locs hP hD hS => ?_)
  have hP : va_P D vwCl (w_X9_undo kc a0 a1 a2 a3 a4 a5 a6 a7 a8 a9 a10 a11 a12 a13 a14 a15 a16 a17 a18 a19 a20 a21 a22 a23 a24 a25 a26 a27 a28 0 loftSize startWind seed draftLoft draftStart draftSeed length textSize start next_ token value error errorAt number undos undo now) H := hP
  have hD : va_D A (w_X9_undo kc a0 a1 a2 a3 a4 a5 a6 a7 a8 a9 a10 a11 a12 a13 a14 a15 a16 a17 a18 a19 a20 a21 a22 a23 a24 a25 a26 a27 a28 0 loftSize startWind seed draftLoft draftStart draftSeed length textSize start next_ token value error errorAt number undos undo now) := hD
  refine lv_aload_n hx hb dX9_undo_5 rfl (lv_at hl 0 rfl) ?_
  refine va_get (D := D) (ci := 9) (v := .int undos) (C := RX9) (T := TX9) (N := 45) hx hb hts in_X9 hown hK hP 0 rfl rfl 41 (by decide) lk_243 (fun _ h9 => h9) rfl dX9_undo_6 ?_
  refine lv_if_ne (tgt := 14) hx hb dX9_undo_9 (by decide) (fun hc => ?_) (fun hc => ?_)
  · have hf := o_f hc hf
    refine lv_aload_n hx hb dX9_undo_14 rfl (lv_at hl 0 rfl) ?_
    refine lv_dup hx hb dX9_undo_15 rfl ?_
    refine va_get (D := D) (ci := 9) (v := .int undos) (C := RX9) (T := TX9) (N := 45) hx hb hts in_X9 hown hK hP 0 rfl rfl 41 (by decide) lk_243 (fun _ h9 => h9) rfl dX9_undo_16 ?_
    refine lv_iconst (v := 1) hx hb dX9_undo_19 (by decide) ?_
    refine lv_isub hx hb dX9_undo_20 ?_
    refine va_put (D := D) (ci := 9) (v := .int (undos - 1)) (ty := .int) (C := RX9) (T := TX9) (N := 45) hx hb hts in_X9 tyX9 tyX9_ok nmX9 hown hK hP hD hS 0 rfl rfl 41 (by decide) lk_243 (fun _ h9 => h9) rfl (by decide +kernel) rfl rfl (Nat.le_of_ble_eq_true rfl) dX9_undo_21 (fun H locs hP hD hS => ?_)
    have hP : va_P D vwCl (w_X9_undo kc a0 a1 a2 a3 a4 a5 a6 a7 a8 a9 a10 a11 a12 a13 a14 a15 a16 a17 a18 a19 a20 a21 a22 a23 a24 a25 a26 a27 a28 0 loftSize startWind seed draftLoft draftStart draftSeed length textSize start next_ token value error errorAt number (undos - 1) undo now) H := hP
    have hD : va_D A (w_X9_undo kc a0 a1 a2 a3 a4 a5 a6 a7 a8 a9 a10 a11 a12 a13 a14 a15 a16 a17 a18 a19 a20 a21 a22 a23 a24 a25 a26 a27 a28 0 loftSize startWind seed draftLoft draftStart draftSeed length textSize start next_ token value error errorAt number (undos - 1) undo now) := hD
    refine lv_aload_n hx hb dX9_undo_24 rfl (lv_at hl 0 rfl) ?_
    refine va_get (D := D) (ci := 9) (v := .ref a26) (C := RX9) (T := TX9) (N := 45) hx hb hts in_X9 hown hK hP 0 rfl rfl 42 (by decide) lk_94 (fun _ h9 => h9) rfl dX9_undo_25 ?_
    refine lv_sipush (v := 213) hx hb dX9_undo_28 (by decide) ?_
    refine lv_aload_n hx hb dX9_undo_31 rfl (lv_at hl 0 rfl) ?_
    refine va_get (D := D) (ci := 9) (v := .int (undos - 1)) (C := RX9) (T := TX9) (N := 45) hx hb hts in_X9 hown hK hP 0 rfl rfl 41 (by decide) lk_243 (fun _ h9 => h9) rfl dX9_undo_32 ?_
    refine lv_imul hx hb dX9_undo_35 ?_
    refine lv_aload_n hx hb dX9_undo_36 rfl (lv_at hl 0 rfl) ?_
    refine va_get (D := D) (ci := 9) (v := .ref a1) (C := RX9) (T := TX9) (N := 45) hx hb hts in_X9 hown hK hP 0 rfl rfl 1 (by decide) lk_13 (fun _ h9 => h9) rfl dX9_undo_37 ?_
    refine lv_iconst (v := 0) hx hb dX9_undo_40 (by decide) ?_
    refine lv_sipush (v := 213) hx hb dX9_undo_41 (by decide) ?_
    obtain ⟨now_1, hc, hf⟩ := ob1_some hf
    refine g_SV (As := [.ref a26, .int (213 * (undos - 1)), .ref a1, .int 0, .int 213]) (rest := []) (ws' := (w_X9_undo kc a0 a1 a2 a3 a4 a5 a6 a7 a8 a9 a10 a11 a12 a13 a14 a15 a16 a17 a18 a19 a20 a21 a22 a23 a24 a25 a26 a27 a28 0 loftSize startWind seed draftLoft draftStart draftSeed length textSize start next_ token value error errorAt number (undos - 1) undo now_1)) ⟨hx, hb, hml, hown, hts⟩ hN hK hP hD hS hA (c_X9_copies l D kc N a26 a1 2556 213 undo now (213 * (undos - 1)) 0 213 now_1 hc) (va_cwS 5 hts gX9_undo_X9_copies rfl rfl rfl (by decide +kernel) ⟨Nat.le_of_ble_eq_true rfl, Nat.le_of_ble_eq_true rfl⟩) [1, 2] [0] [0, 1, 2] (by exact ⟨rfl, rfl, by decide, rfl⟩) rfl hl.1 rfl (Nat.le_of_ble_eq_true rfl) dX9_undo_44 ⟨Nat.le_refl _, Nat.le_refl _⟩ (fun H locs hP hD hS => ?_)
    refine lv_iconst (v := 1) hx hb dX9_undo_47 (by decide) ?_
    cases hf
    exact kR _ _ _ _ (Or.inr rfl) hP hD hS dX9_undo_48
  · have hf := o_t hc hf
    refine lv_iconst (v := 0) hx hb dX9_undo_12 (by decide) ?_
    cases hf
    exact kR _ _ _ _ (Or.inl rfl) hP hD hS dX9_undo_13
abbrev w_X9_undoDepth (kc : Nat → ClassId) (a0 a1 a2 a3 a4 a5 a6 a7 a8 a9 a10 a11 a12 a13 a14 a15 a16 a17 a18 a19 a20 a21 a22 a23 a24 a25 a26 a27 a28 : Nat) (thrown : Int32) (loftSize : Int32) (startWind : Int32) (seed : Int32) (draftLoft : Int32) (draftStart : Int32) (draftSeed : Int32) (length : Int32) (textSize : Int32) (start : Int32) (next_ : Int32) (token : Int32) (value : Int32) (error : Int32) (errorAt : Int32) (number : Int32) (undos : Int32) : va_W := [(a0, .inr (9, [.int thrown, .ref a1, .ref a2, .ref a3, .ref a4, .ref a5, .ref a6, .ref a7, .ref a8, .ref a9, .ref a10, .ref a11, .ref a12, .ref a13, .ref a14, .ref a15, .ref a16, .ref a17, .ref a18, .ref a19, .int loftSize, .int startWind, .int seed, .int draftLoft, .int draftStart, .int draftSeed, .ref a20, .int length, .int textSize, .int start, .int next_, .int token, .int value, .int error, .int errorAt, .int number, .ref a21, .ref a22, .ref a23, .ref a24, .ref a25, .int undos, .ref a26, .ref a27, .ref a28]))]
set_option maxHeartbeats 4000000 in
set_option maxRecDepth 100000 in
theorem c_X9_undoDepth (l : Launch) (D : va_G) (kc : Nat → ClassId) (N : Nat) (a0 a1 a2 a3 a4 a5 a6 a7 a8 a9 a10 a11 a12 a13 a14 a15 a16 a17 a18 a19 a20 a21 a22 a23 a24 a25 a26 a27 a28 : Nat) (thrown : Int32) (loftSize : Int32) (startWind : Int32) (seed : Int32) (draftLoft : Int32) (draftStart : Int32) (draftSeed : Int32) (length : Int32) (textSize : Int32) (start : Int32) (next_ : Int32) (token : Int32) (value : Int32) (error : Int32) (errorAt : Int32) (number : Int32) (undos : Int32) (r_ : Int32) (thrown' : Int32) (hf : f_X9_undoDepth N undos = some (r_, thrown')) : MI l yX9_undoDepth wsX9_undoDepth ({ frames := 0, cells := 0, slots := 0, locals := 0 }) D kc [.ref a0] (w_X9_undoDepth kc a0 a1 a2 a3 a4 a5 a6 a7 a8 a9 a10 a11 a12 a13 a14 a15 a16 a17 a18 a19 a20 a21 a22 a23 a24 a25 a26 a27 a28 thrown loftSize startWind seed draftLoft draftStart draftSeed length textSize start next_ token value error errorAt number undos) (w_X9_undoDepth kc a0 a1 a2 a3 a4 a5 a6 a7 a8 a9 a10 a11 a12 a13 a14 a15 a16 a17 a18 a19 a20 a21 a22 a23 a24 a25 a26 a27 a28 thrown' loftSize startWind seed draftLoft draftStart draftSeed length textSize start next_ token value error errorAt number undos) r_ := by
  refine gM_I (cc := cX9_undoDepth) (maxL := 1) (by decide) rfl (Nat.le_of_ble_eq_true rfl) ?_
  intro p e s m below meth c A ls Q hx hb hml hown hts hN hK hP hD hA hl kR
  have hS : va_S A s.heap s.heap [] := va_S.rf
  have hl : lv_has ls 1 [(0, .ref a0)] := hl
  have in_X9 : ∀ w ∈ u_ws RX9 TX9 45, w ∈ wsX9_undoDepth := by decide +kernel
  have lk_1 := hts (.fieldLink RX9 1 "BalloonMailModel" "thrown" "I") (by decide +kernel)
  have lk_243 := hts (.fieldLink RX9 243 "BalloonMailModel" "undos" "I") (by decide +kernel)
  unfold f_X9_undoDepth at hf
  refine lv_aload_n hx hb dX9_undoDepth_0 rfl (lv_at hl 0 rfl) ?_
  refine lv_iconst (v := 0) hx hb dX9_undoDepth_1 (by decide) ?_
  refine va_put (D := D) (ci := 9) (v := .int 0) (ty := .int) (C := RX9) (T := TX9) (N := 45) hx hb hts in_X9 tyX9 tyX9_ok nmX9 hown hK hP hD hS 0 rfl rfl 0 (by decide) lk_1 (fun _ h9 => h9) rfl (by decide +kernel) rfl rfl (Nat.le_of_ble_eq_true rfl) dX9_undoDepth_2 (fun H locs hP hD hS => ?_)
  have hP : va_P D vwCl (w_X9_undoDepth kc a0 a1 a2 a3 a4 a5 a6 a7 a8 a9 a10 a11 a12 a13 a14 a15 a16 a17 a18 a19 a20 a21 a22 a23 a24 a25 a26 a27 a28 0 loftSize startWind seed draftLoft draftStart draftSeed length textSize start next_ token value error errorAt number undos) H := hP
  have hD : va_D A (w_X9_undoDepth kc a0 a1 a2 a3 a4 a5 a6 a7 a8 a9 a10 a11 a12 a13 a14 a15 a16 a17 a18 a19 a20 a21 a22 a23 a24 a25 a26 a27 a28 0 loftSize startWind seed draftLoft draftStart draftSeed length textSize start next_ token value error errorAt number undos) := hD
  refine lv_aload_n hx hb dX9_undoDepth_5 rfl (lv_at hl 0 rfl) ?_
  refine va_get (D := D) (ci := 9) (v := .int undos) (C := RX9) (T := TX9) (N := 45) hx hb hts in_X9 hown hK hP 0 rfl rfl 41 (by decide) lk_243 (fun _ h9 => h9) rfl dX9_undoDepth_6 ?_
  cases hf
  exact kR _ _ _ _ hP hD hS dX9_undoDepth_9
abbrev w_X9_saveSnapshot (kc : Nat → ClassId) (a0 a1 a2 a3 a4 a5 a6 a7 a8 a9 a10 a11 a12 a13 a14 a15 a16 a17 a18 a19 a20 a21 a22 a23 a24 a25 a26 a27 a28 : Nat) (thrown : Int32) (loftSize : Int32) (startWind : Int32) (seed : Int32) (draftLoft : Int32) (draftStart : Int32) (draftSeed : Int32) (length : Int32) (textSize : Int32) (start : Int32) (next_ : Int32) (token : Int32) (value : Int32) (error : Int32) (errorAt : Int32) (number : Int32) (undos : Int32) (now : Nat → Int32) (slots : Nat → Int32) (isSaved : Nat → Int32) : va_W := [(a0, .inr (9, [.int thrown, .ref a1, .ref a2, .ref a3, .ref a4, .ref a5, .ref a6, .ref a7, .ref a8, .ref a9, .ref a10, .ref a11, .ref a12, .ref a13, .ref a14, .ref a15, .ref a16, .ref a17, .ref a18, .ref a19, .int loftSize, .int startWind, .int seed, .int draftLoft, .int draftStart, .int draftSeed, .ref a20, .int length, .int textSize, .int start, .int next_, .int token, .int value, .int error, .int errorAt, .int number, .ref a21, .ref a22, .ref a23, .ref a24, .ref a25, .int undos, .ref a26, .ref a27, .ref a28])), (a1, .inl (kc 1, 213, .inl now)), (a27, .inl (kc 1, 426, .inl slots)), (a28, .inl (kc 3, 2, .inl isSaved))]
set_option maxHeartbeats 4000000 in
set_option maxRecDepth 100000 in
theorem c_X9_saveSnapshot (l : Launch) (D : va_G) (kc : Nat → ClassId) (N : Nat) (a0 a1 a2 a3 a4 a5 a6 a7 a8 a9 a10 a11 a12 a13 a14 a15 a16 a17 a18 a19 a20 a21 a22 a23 a24 a25 a26 a27 a28 : Nat) (thrown : Int32) (loftSize : Int32) (startWind : Int32) (seed : Int32) (draftLoft : Int32) (draftStart : Int32) (draftSeed : Int32) (length : Int32) (textSize : Int32) (start : Int32) (next_ : Int32) (token : Int32) (value : Int32) (error : Int32) (errorAt : Int32) (number : Int32) (undos : Int32) (now : Nat → Int32) (slots : Nat → Int32) (isSaved : Nat → Int32) (x1 : Int32) (r_ : Int32) (thrown' : Int32) (slots' : Nat → Int32) (isSaved' : Nat → Int32) (hf : f_X9_saveSnapshot N now slots isSaved x1 = some (r_, thrown', slots', isSaved')) : MZ l yX9_saveSnapshot wsX9_saveSnapshot ({ frames := 1, cells := 0, slots := 0, locals := 25 }) D kc [.ref a0, .int x1] (w_X9_saveSnapshot kc a0 a1 a2 a3 a4 a5 a6 a7 a8 a9 a10 a11 a12 a13 a14 a15 a16 a17 a18 a19 a20 a21 a22 a23 a24 a25 a26 a27 a28 thrown loftSize startWind seed draftLoft draftStart draftSeed length textSize start next_ token value error errorAt number undos now slots isSaved) (w_X9_saveSnapshot kc a0 a1 a2 a3 a4 a5 a6 a7 a8 a9 a10 a11 a12 a13 a14 a15 a16 a17 a18 a19 a20 a21 a22 a23 a24 a25 a26 a27 a28 thrown' loftSize startWind seed draftLoft draftStart draftSeed length textSize start next_ token value error errorAt number undos now slots' isSaved') r_ := by
  refine gM_Z (cc := cX9_saveSnapshot) (maxL := 2) (by decide) rfl (Nat.le_of_ble_eq_true rfl) ?_
  intro p e s m below meth c A ls Q hx hb hml hown hts hN hK hP hD hA hl kR
  have hS : va_S A s.heap s.heap [] := va_S.rf
  have hl : lv_has ls 2 [(0, .ref a0), (1, .int x1)] := hl
  have in_X9 : ∀ w ∈ u_ws RX9 TX9 45, w ∈ wsX9_saveSnapshot := by decide +kernel
  have lk_1 := hts (.fieldLink RX9 1 "BalloonMailModel" "thrown" "I") (by decide +kernel)
  have lk_13 := hts (.fieldLink RX9 13 "BalloonMailModel" "now" "[I") (by decide +kernel)
  have lk_97 := hts (.fieldLink RX9 97 "BalloonMailModel" "slots" "[I") (by decide +kernel)
  have lk_100 := hts (.fieldLink RX9 100 "BalloonMailModel" "isSaved" "[Z") (by decide +kernel)
  unfold f_X9_saveSnapshot at hf
  refine lv_aload_n hx hb dX9_saveSnapshot_0 rfl (lv_at hl 0 rfl) ?_
  refine lv_iconst (v := 0) hx hb dX9_saveSnapshot_1 (by decide) ?_
  refine va_put (D := D) (ci := 9) (v := .int 0) (ty := .int) (C := RX9) (T := TX9) (N := 45) hx hb hts in_X9 tyX9 tyX9_ok nmX9 hown hK hP hD hS 0 rfl rfl 0 (by decide) lk_1 (fun _ h9 => h9) rfl (by decide +kernel) rfl rfl (Nat.le_of_ble_eq_true rfl) dX9_saveSnapshot_2 (fun H locs hP hD hS => ?_)
  have hP : va_P D vwCl (w_X9_saveSnapshot kc a0 a1 a2 a3 a4 a5 a6 a7 a8 a9 a10 a11 a12 a13 a14 a15 a16 a17 a18 a19 a20 a21 a22 a23 a24 a25 a26 a27 a28 0 loftSize startWind seed draftLoft draftStart draftSeed length textSize start next_ token value error errorAt number undos now slots isSaved) H := hP
  have hD : va_D A (w_X9_saveSnapshot kc a0 a1 a2 a3 a4 a5 a6 a7 a8 a9 a10 a11 a12 a13 a14 a15 a16 a17 a18 a19 a20 a21 a22 a23 a24 a25 a26 a27 a28 0 loftSize startWind seed draftLoft draftStart draftSeed length textSize start next_ token value error errorAt number undos now slots isSaved) := hD
  refine lv_iload_n hx hb dX9_saveSnapshot_5 rfl (lv_at hl 1 rfl) ?_
  refine lv_iconst (v := 0) hx hb dX9_saveSnapshot_6 (by decide) ?_
  refine lv_iconst (v := 1) hx hb dX9_saveSnapshot_7 (by decide) ?_
  obtain ⟨r_1, hc, hf⟩ := ob1_some hf
  refine g_SZ (As := [.int x1, .int 0, .int 1]) (rest := []) (ws' := (w_X9_saveSnapshot kc a0 a1 a2 a3 a4 a5 a6 a7 a8 a9 a10 a11 a12 a13 a14 a15 a16 a17 a18 a19 a20 a21 a22 a23 a24 a25 a26 a27 a28 0 loftSize startWind seed draftLoft draftStart draftSeed length textSize start next_ token value error errorAt number undos now slots isSaved)) ⟨hx, hb, hml, hown, hts⟩ hN hK hP hD hS hA (c_X9_within l D kc N x1 0 1 r_1 hc) (va_cwS 3 hts gX9_saveSnapshot_X9_within rfl rfl rfl (by decide +kernel) ⟨Nat.le_of_ble_eq_true rfl, Nat.le_of_ble_eq_true rfl⟩) [] [0, 1, 2, 3] [0, 1, 2, 3] (by exact ⟨rfl, rfl, by decide, rfl⟩) rfl hl.1 rfl (Nat.le_of_ble_eq_true rfl) dX9_saveSnapshot_8 ⟨Nat.le_refl _, Nat.le_refl _⟩ (fun H locs hz hP hD hS => ?_)
  have hz_2 := hz
  refine lv_if_ne (tgt := 16) hx hb dX9_saveSnapshot_11 (by decide) (fun hc => ?_) (fun hc => ?_)
  · have hf := o_f hc hf
    refine lv_aload_n hx hb dX9_saveSnapshot_16 rfl (lv_at hl 0 rfl) ?_
    refine va_get (D := D) (ci := 9) (v := .ref a1) (C := RX9) (T := TX9) (N := 45) hx hb hts in_X9 hown hK hP 0 rfl rfl 1 (by decide) lk_13 (fun _ h9 => h9) rfl dX9_saveSnapshot_17 ?_
    refine lv_iconst (v := 0) hx hb dX9_saveSnapshot_20 (by decide) ?_
    refine lv_aload_n hx hb dX9_saveSnapshot_21 rfl (lv_at hl 0 rfl) ?_
    refine va_get (D := D) (ci := 9) (v := .ref a27) (C := RX9) (T := TX9) (N := 45) hx hb hts in_X9 hown hK hP 0 rfl rfl 43 (by decide) lk_97 (fun _ h9 => h9) rfl dX9_saveSnapshot_22 ?_
    refine lv_sipush (v := 213) hx hb dX9_saveSnapshot_25 (by decide) ?_
    refine lv_iload_n hx hb dX9_saveSnapshot_28 rfl (lv_at hl 1 rfl) ?_
    refine lv_imul hx hb dX9_saveSnapshot_29 ?_
    refine lv_sipush (v := 213) hx hb dX9_saveSnapshot_30 (by decide) ?_
    obtain ⟨slots_3, hc, hf⟩ := ob1_some hf
    refine g_SV (As := [.ref a1, .int 0, .ref a27, .int (213 * x1), .int 213]) (rest := []) (ws' := (w_X9_saveSnapshot kc a0 a1 a2 a3 a4 a5 a6 a7 a8 a9 a10 a11 a12 a13 a14 a15 a16 a17 a18 a19 a20 a21 a22 a23 a24 a25 a26 a27 a28 0 loftSize startWind seed draftLoft draftStart draftSeed length textSize start next_ token value error errorAt number undos now slots_3 isSaved)) ⟨hx, hb, hml, hown, hts⟩ hN hK hP hD hS hA (c_X9_copies l D kc N a1 a27 213 426 now slots 0 (213 * x1) 213 slots_3 hc) (va_cwS 5 hts gX9_saveSnapshot_X9_copies rfl rfl rfl (by decide +kernel) ⟨Nat.le_of_ble_eq_true rfl, Nat.le_of_ble_eq_true rfl⟩) [1, 2] [0, 3] [0, 2, 3, 1] (by exact ⟨rfl, rfl, by decide, rfl⟩) rfl hl.1 rfl (Nat.le_of_ble_eq_true rfl) dX9_saveSnapshot_33 ⟨Nat.le_refl _, Nat.le_refl _⟩ (fun H locs hP hD hS => ?_)
    refine lv_aload_n hx hb dX9_saveSnapshot_36 rfl (lv_at hl 0 rfl) ?_
    refine va_get (D := D) (ci := 9) (v := .ref a28) (C := RX9) (T := TX9) (N := 45) hx hb hts in_X9 hown hK hP 0 rfl rfl 44 (by decide) lk_100 (fun _ h9 => h9) rfl dX9_saveSnapshot_37 ?_
    refine lv_iload_n hx hb dX9_saveSnapshot_40 rfl (lv_at hl 1 rfl) ?_
    refine lv_iconst (v := 1) hx hb dX9_saveSnapshot_41 (by decide) ?_
    obtain ⟨hi, hf⟩ := gIx_some hf
    refine va_zast hx hb hK hP hD hS 3 3 rfl rfl hi dX9_saveSnapshot_42 (fun H locs hP hD hS => ?_)
    have hP : va_P D vwCl (w_X9_saveSnapshot kc a0 a1 a2 a3 a4 a5 a6 a7 a8 a9 a10 a11 a12 a13 a14 a15 a16 a17 a18 a19 a20 a21 a22 a23 a24 a25 a26 a27 a28 0 loftSize startWind seed draftLoft draftStart draftSeed length textSize start next_ token value error errorAt number undos now slots_3 (upd isSaved (x1 : Int32).toNatClampNeg (vp_nar .boolean 1))) H := hP
    have hD : va_D A (w_X9_saveSnapshot kc a0 a1 a2 a3 a4 a5 a6 a7 a8 a9 a10 a11 a12 a13 a14 a15 a16 a17 a18 a19 a20 a21 a22 a23 a24 a25 a26 a27 a28 0 loftSize startWind seed draftLoft draftStart draftSeed length textSize start next_ token value error errorAt number undos now slots_3 (upd isSaved (x1 : Int32).toNatClampNeg (vp_nar .boolean 1))) := hD
    refine lv_iconst (v := 1) hx hb dX9_saveSnapshot_43 (by decide) ?_
    cases hf
    exact kR _ _ _ _ (Or.inr rfl) hP hD hS dX9_saveSnapshot_44
  · have hf := o_t hc hf
    refine lv_iconst (v := 0) hx hb dX9_saveSnapshot_14 (by decide) ?_
    cases hf
    exact kR _ _ _ _ (Or.inl rfl) hP hD hS dX9_saveSnapshot_15
abbrev w_X9_restoreSnapshot (kc : Nat → ClassId) (a0 a1 a2 a3 a4 a5 a6 a7 a8 a9 a10 a11 a12 a13 a14 a15 a16 a17 a18 a19 a20 a21 a22 a23 a24 a25 a26 a27 a28 : Nat) (thrown : Int32) (loftSize : Int32) (startWind : Int32) (seed : Int32) (draftLoft : Int32) (draftStart : Int32) (draftSeed : Int32) (length : Int32) (textSize : Int32) (start : Int32) (next_ : Int32) (token : Int32) (value : Int32) (error : Int32) (errorAt : Int32) (number : Int32) (undos : Int32) (isSaved : Nat → Int32) (slots : Nat → Int32) (now : Nat → Int32) : va_W := [(a0, .inr (9, [.int thrown, .ref a1, .ref a2, .ref a3, .ref a4, .ref a5, .ref a6, .ref a7, .ref a8, .ref a9, .ref a10, .ref a11, .ref a12, .ref a13, .ref a14, .ref a15, .ref a16, .ref a17, .ref a18, .ref a19, .int loftSize, .int startWind, .int seed, .int draftLoft, .int draftStart, .int draftSeed, .ref a20, .int length, .int textSize, .int start, .int next_, .int token, .int value, .int error, .int errorAt, .int number, .ref a21, .ref a22, .ref a23, .ref a24, .ref a25, .int undos, .ref a26, .ref a27, .ref a28])), (a28, .inl (kc 3, 2, .inl isSaved)), (a27, .inl (kc 1, 426, .inl slots)), (a1, .inl (kc 1, 213, .inl now))]
set_option maxHeartbeats 4000000 in
set_option maxRecDepth 100000 in
theorem c_X9_restoreSnapshot (l : Launch) (D : va_G) (kc : Nat → ClassId) (N : Nat) (a0 a1 a2 a3 a4 a5 a6 a7 a8 a9 a10 a11 a12 a13 a14 a15 a16 a17 a18 a19 a20 a21 a22 a23 a24 a25 a26 a27 a28 : Nat) (thrown : Int32) (loftSize : Int32) (startWind : Int32) (seed : Int32) (draftLoft : Int32) (draftStart : Int32) (draftSeed : Int32) (length : Int32) (textSize : Int32) (start : Int32) (next_ : Int32) (token : Int32) (value : Int32) (error : Int32) (errorAt : Int32) (number : Int32) (undos : Int32) (isSaved : Nat → Int32) (slots : Nat → Int32) (now : Nat → Int32) (x1 : Int32) (r_ : Int32) (thrown' : Int32) (undos' : Int32) (now' : Nat → Int32) (hf : f_X9_restoreSnapshot N undos isSaved slots now x1 = some (r_, thrown', undos', now')) : MZ l yX9_restoreSnapshot wsX9_restoreSnapshot ({ frames := 1, cells := 0, slots := 0, locals := 25 }) D kc [.ref a0, .int x1] (w_X9_restoreSnapshot kc a0 a1 a2 a3 a4 a5 a6 a7 a8 a9 a10 a11 a12 a13 a14 a15 a16 a17 a18 a19 a20 a21 a22 a23 a24 a25 a26 a27 a28 thrown loftSize startWind seed draftLoft draftStart draftSeed length textSize start next_ token value error errorAt number undos isSaved slots now) (w_X9_restoreSnapshot kc a0 a1 a2 a3 a4 a5 a6 a7 a8 a9 a10 a11 a12 a13 a14 a15 a16 a17 a18 a19 a20 a21 a22 a23 a24 a25 a26 a27 a28 thrown' loftSize startWind seed draftLoft draftStart draftSeed length textSize start next_ token value error errorAt number undos' isSaved slots now') r_ := by
  refine gM_Z (cc := cX9_restoreSnapshot) (maxL := 2) (by decide) rfl (Nat.le_of_ble_eq_true rfl) ?_
  intro p e s m below meth c A ls Q hx hb hml hown hts hN hK hP hD hA hl kR
  have hS : va_S A s.heap s.heap [] := va_S.rf
  have hl : lv_has ls 2 [(0, .ref a0), (1, .int x1)] := hl
  have in_X9 : ∀ w ∈ u_ws RX9 TX9 45, w ∈ wsX9_restoreSnapshot := by decide +kernel
  have lk_1 := hts (.fieldLink RX9 1 "BalloonMailModel" "thrown" "I") (by decide +kernel)
  have lk_100 := hts (.fieldLink RX9 100 "BalloonMailModel" "isSaved" "[Z") (by decide +kernel)
  have lk_97 := hts (.fieldLink RX9 97 "BalloonMailModel" "slots" "[I") (by decide +kernel)
  have lk_13 := hts (.fieldLink RX9 13 "BalloonMailModel" "now" "[I") (by decide +kernel)
  have lk_243 := hts (.fieldLink RX9 243 "BalloonMailModel" "undos" "I") (by decide +kernel)
  unfold f_X9_restoreSnapshot at hf
  refine lv_aload_n hx hb dX9_restoreSnapshot_0 rfl (lv_at hl 0 rfl) ?_
  refine lv_iconst (v := 0) hx hb dX9_restoreSnapshot_1 (by decide) ?_
  refine va_put (D := D) (ci := 9) (v := .int 0) (ty := .int) (C := RX9) (T := TX9) (N := 45) hx hb hts in_X9 tyX9 tyX9_ok nmX9 hown hK hP hD hS 0 rfl rfl 0 (by decide) lk_1 (fun _ h9 => h9) rfl (by decide +kernel) rfl rfl (Nat.le_of_ble_eq_true rfl) dX9_restoreSnapshot_2 (fun H locs hP hD hS => ?_)
  have hP : va_P D vwCl (w_X9_restoreSnapshot kc a0 a1 a2 a3 a4 a5 a6 a7 a8 a9 a10 a11 a12 a13 a14 a15 a16 a17 a18 a19 a20 a21 a22 a23 a24 a25 a26 a27 a28 0 loftSize startWind seed draftLoft draftStart draftSeed length textSize start next_ token value error errorAt number undos isSaved slots now) H := hP
  have hD : va_D A (w_X9_restoreSnapshot kc a0 a1 a2 a3 a4 a5 a6 a7 a8 a9 a10 a11 a12 a13 a14 a15 a16 a17 a18 a19 a20 a21 a22 a23 a24 a25 a26 a27 a28 0 loftSize startWind seed draftLoft draftStart draftSeed length textSize start next_ token value error errorAt number undos isSaved slots now) := hD
  refine lv_iload_n hx hb dX9_restoreSnapshot_5 rfl (lv_at hl 1 rfl) ?_
  refine lv_iconst (v := 0) hx hb dX9_restoreSnapshot_6 (by decide) ?_
  refine lv_iconst (v := 1) hx hb dX9_restoreSnapshot_7 (by decide) ?_
  obtain ⟨r_1, hc, hf⟩ := ob1_some hf
  refine g_SZ (As := [.int x1, .int 0, .int 1]) (rest := []) (ws' := (w_X9_restoreSnapshot kc a0 a1 a2 a3 a4 a5 a6 a7 a8 a9 a10 a11 a12 a13 a14 a15 a16 a17 a18 a19 a20 a21 a22 a23 a24 a25 a26 a27 a28 0 loftSize startWind seed draftLoft draftStart draftSeed length textSize start next_ token value error errorAt number undos isSaved slots now)) ⟨hx, hb, hml, hown, hts⟩ hN hK hP hD hS hA (c_X9_within l D kc N x1 0 1 r_1 hc) (va_cwS 3 hts gX9_restoreSnapshot_X9_within rfl rfl rfl (by decide +kernel) ⟨Nat.le_of_ble_eq_true rfl, Nat.le_of_ble_eq_true rfl⟩) [] [0, 1, 2, 3] [0, 1, 2, 3] (by exact ⟨rfl, rfl, by decide, rfl⟩) rfl hl.1 rfl (Nat.le_of_ble_eq_true rfl) dX9_restoreSnapshot_8 ⟨Nat.le_refl _, Nat.le_refl _⟩ (fun H locs hz hP hD hS => ?_)
  have hz_2 := hz
  refine lv_if_eq (tgt := 23) hx hb dX9_restoreSnapshot_11 (by decide) (fun hc => ?_) (fun hc => ?_)
  · have hf := o_t hc hf
    refine lv_iconst (v := 0) hx hb dX9_restoreSnapshot_23 (by decide) ?_
    cases hf
    exact kR _ _ _ _ (Or.inl rfl) hP hD hS dX9_restoreSnapshot_24
  · have hf := o_f hc hf
    refine lv_aload_n hx hb dX9_restoreSnapshot_14 rfl (lv_at hl 0 rfl) ?_
    refine va_get (D := D) (ci := 9) (v := .ref a28) (C := RX9) (T := TX9) (N := 45) hx hb hts in_X9 hown hK hP 0 rfl rfl 44 (by decide) lk_100 (fun _ h9 => h9) rfl dX9_restoreSnapshot_15 ?_
    refine lv_iload_n hx hb dX9_restoreSnapshot_18 rfl (lv_at hl 1 rfl) ?_
    obtain ⟨hi, hf⟩ := gIx_some hf
    refine va_zald hx hb hK hP 1 3 rfl rfl hi dX9_restoreSnapshot_19 ?_
    refine lv_if_ne (tgt := 25) hx hb dX9_restoreSnapshot_20 (by decide) (fun hc => ?_) (fun hc => ?_)
    · have hf := o_f hc hf
      refine lv_aload_n hx hb dX9_restoreSnapshot_25 rfl (lv_at hl 0 rfl) ?_
      refine va_get (D := D) (ci := 9) (v := .ref a27) (C := RX9) (T := TX9) (N := 45) hx hb hts in_X9 hown hK hP 0 rfl rfl 43 (by decide) lk_97 (fun _ h9 => h9) rfl dX9_restoreSnapshot_26 ?_
      refine lv_sipush (v := 213) hx hb dX9_restoreSnapshot_29 (by decide) ?_
      refine lv_iload_n hx hb dX9_restoreSnapshot_32 rfl (lv_at hl 1 rfl) ?_
      refine lv_imul hx hb dX9_restoreSnapshot_33 ?_
      refine lv_aload_n hx hb dX9_restoreSnapshot_34 rfl (lv_at hl 0 rfl) ?_
      refine va_get (D := D) (ci := 9) (v := .ref a1) (C := RX9) (T := TX9) (N := 45) hx hb hts in_X9 hown hK hP 0 rfl rfl 1 (by decide) lk_13 (fun _ h9 => h9) rfl dX9_restoreSnapshot_35 ?_
      refine lv_iconst (v := 0) hx hb dX9_restoreSnapshot_38 (by decide) ?_
      refine lv_sipush (v := 213) hx hb dX9_restoreSnapshot_39 (by decide) ?_
      obtain ⟨now_3, hc, hf⟩ := ob1_some hf
      refine g_SV (As := [.ref a27, .int (213 * x1), .ref a1, .int 0, .int 213]) (rest := []) (ws' := (w_X9_restoreSnapshot kc a0 a1 a2 a3 a4 a5 a6 a7 a8 a9 a10 a11 a12 a13 a14 a15 a16 a17 a18 a19 a20 a21 a22 a23 a24 a25 a26 a27 a28 0 loftSize startWind seed draftLoft draftStart draftSeed length textSize start next_ token value error errorAt number undos isSaved slots now_3)) ⟨hx, hb, hml, hown, hts⟩ hN hK hP hD hS hA (c_X9_copies l D kc N a27 a1 426 213 slots now (213 * x1) 0 213 now_3 hc) (va_cwS 5 hts gX9_restoreSnapshot_X9_copies rfl rfl rfl (by decide +kernel) ⟨Nat.le_of_ble_eq_true rfl, Nat.le_of_ble_eq_true rfl⟩) [2, 3] [0, 1] [0, 1, 2, 3] (by exact ⟨rfl, rfl, by decide, rfl⟩) rfl hl.1 rfl (Nat.le_of_ble_eq_true rfl) dX9_restoreSnapshot_42 ⟨Nat.le_refl _, Nat.le_refl _⟩ (fun H locs hP hD hS => ?_)
      refine lv_aload_n hx hb dX9_restoreSnapshot_45 rfl (lv_at hl 0 rfl) ?_
      refine lv_iconst (v := 0) hx hb dX9_restoreSnapshot_46 (by decide) ?_
      refine va_put (D := D) (ci := 9) (v := .int 0) (ty := .int) (C := RX9) (T := TX9) (N := 45) hx hb hts in_X9 tyX9 tyX9_ok nmX9 hown hK hP hD hS 0 rfl rfl 41 (by decide) lk_243 (fun _ h9 => h9) rfl (by decide +kernel) rfl rfl (Nat.le_of_ble_eq_true rfl) dX9_restoreSnapshot_47 (fun H locs hP hD hS => ?_)
      have hP : va_P D vwCl (w_X9_restoreSnapshot kc a0 a1 a2 a3 a4 a5 a6 a7 a8 a9 a10 a11 a12 a13 a14 a15 a16 a17 a18 a19 a20 a21 a22 a23 a24 a25 a26 a27 a28 0 loftSize startWind seed draftLoft draftStart draftSeed length textSize start next_ token value error errorAt number 0 isSaved slots now_3) H := hP
      have hD : va_D A (w_X9_restoreSnapshot kc a0 a1 a2 a3 a4 a5 a6 a7 a8 a9 a10 a11 a12 a13 a14 a15 a16 a17 a18 a19 a20 a21 a22 a23 a24 a25 a26 a27 a28 0 loftSize startWind seed draftLoft draftStart draftSeed length textSize start next_ token value error errorAt number 0 isSaved slots now_3) := hD
      refine lv_iconst (v := 1) hx hb dX9_restoreSnapshot_50 (by decide) ?_
      cases hf
      exact kR _ _ _ _ (Or.inr rfl) hP hD hS dX9_restoreSnapshot_51
    · have hf := o_t hc hf
      refine lv_iconst (v := 0) hx hb dX9_restoreSnapshot_23 (by decide) ?_
      cases hf
      exact kR _ _ _ _ (Or.inl rfl) hP hD hS dX9_restoreSnapshot_24
