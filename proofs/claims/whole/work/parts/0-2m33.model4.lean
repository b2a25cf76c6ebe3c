abbrev w_X9_errorPosition (kc : Nat → ClassId) (a0 a1 a2 a3 a4 a5 a6 a7 a8 a9 a10 a11 a12 a13 a14 a15 a16 a17 a18 a19 a20 a21 a22 a23 a24 a25 a26 a27 a28 : Nat) (thrown : Int32) (loftSize : Int32) (startWind : Int32) (seed : Int32) (draftLoft : Int32) (draftStart : Int32) (draftSeed : Int32) (length : Int32) (textSize : Int32) (start : Int32) (next_ : Int32) (token : Int32) (value : Int32) (error : Int32) (errorAt : Int32) (number : Int32) (undos : Int32) : va_W := [(a0, .inr (9, [.int thrown, .ref a1, .ref a2, .ref a3, .ref a4, .ref a5, .ref a6, .ref a7, .ref a8, .ref a9, .ref a10, .ref a11, .ref a12, .ref a13, .ref a14, .ref a15, .ref a16, .ref a17, .ref a18, .ref a19, .int loftSize, .int startWind, .int seed, .int draftLoft, .int draftStart, .int draftSeed, .ref a20, .int length, .int textSize, .int start, .int next_, .int token, .int value, .int error, .int errorAt, .int number, .ref a21, .ref a22, .ref a23, .ref a24, .ref a25, .int undos, .ref a26, .ref a27, .ref a28]))]
set_option maxHeartbeats 4000000 in
set_option maxRecDepth 100000 in
theorem c_X9_errorPosition (l : Launch) (D : va_G) (kc : Nat → ClassId) (N : Nat) (a0 a1 a2 a3 a4 a5 a6 a7 a8 a9 a10 a11 a12 a13 a14 a15 a16 a17 a18 a19 a20 a21 a22 a23 a24 a25 a26 a27 a28 : Nat) (thrown : Int32) (loftSize : Int32) (startWind : Int32) (seed : Int32) (draftLoft : Int32) (draftStart : Int32) (draftSeed : Int32) (length : Int32) (textSize : Int32) (start : Int32) (next_ : Int32) (token : Int32) (value : Int32) (error : Int32) (errorAt : Int32) (number : Int32) (undos : Int32) (r_ : Int32) (thrown' : Int32) (hf : f_X9_errorPosition N errorAt = some (r_, thrown')) : MI l yX9_errorPosition wsX9_errorPosition ({ frames := 0, cells := 0, slots := 0, locals := 0 }) D kc [.ref a0] (w_X9_errorPosition kc a0 a1 a2 a3 a4 a5 a6 a7 a8 a9 a10 a11 a12 a13 a14 a15 a16 a17 a18 a19 a20 a21 a22 a23 a24 a25 a26 a27 a28 thrown loftSize startWind seed draftLoft draftStart draftSeed length textSize start next_ token value error errorAt number undos) (w_X9_errorPosition kc a0 a1 a2 a3 a4 a5 a6 a7 a8 a9 a10 a11 a12 a13 a14 a15 a16 a17 a18 a19 a20 a21 a22 a23 a24 a25 a26 a27 a28 thrown' loftSize startWind seed draftLoft draftStart draftSeed length textSize start next_ token value error errorAt number undos) r_ := by
  refine gM_I (cc := cX9_errorPosition) (maxL := 1) (by decide) rfl (Nat.le_of_ble_eq_true rfl) ?_
  intro p e s m below meth c A ls Q hx hb hml hown hts hN hK hP hD hA hl kR
  have hS : va_S A s.heap s.heap [] := va_S.rf
  have hl : lv_has ls 1 [(0, .ref a0)] := hl
  have in_X9 : ∀ w ∈ u_ws RX9 TX9 45, w ∈ wsX9_errorPosition := by decide +kernel
  have lk_1 := hts (.fieldLink RX9 1 "BalloonMailModel" "thrown" "I") (by decide +kernel)
  have lk_75 := hts (.fieldLink RX9 75 "BalloonMailModel" "errorAt" "I") (by decide +kernel)
  unfold f_X9_errorPosition at hf
  refine lv_aload_n hx hb dX9_errorPosition_0 rfl (lv_at hl 0 rfl) ?_
  refine lv_iconst (v := 0) hx hb dX9_errorPosition_1 (by decide) ?_
  refine va_put (D := D) (ci := 9) (v := .int 0) (ty := .int) (C := RX9) (T := TX9) (N := 45) hx hb hts in_X9 tyX9 tyX9_ok nmX9 hown hK hP hD hS 0 rfl rfl 0 (by decide) lk_1 (fun _ h9 => h9) rfl (by decide +kernel) rfl rfl (Nat.le_of_ble_eq_true rfl) dX9_errorPosition_2 (fun H locs hP hD hS => ?_)
  have hP : va_P D vwCl (w_X9_errorPosition kc a0 a1 a2 a3 a4 a5 a6 a7 a8 a9 a10 a11 a12 a13 a14 a15 a16 a17 a18 a19 a20 a21 a22 a23 a24 a25 a26 a27 a28 0 loftSize startWind seed draftLoft draftStart draftSeed length textSize start next_ token value error errorAt number undos) H := hP
  have hD : va_D A (w_X9_errorPosition kc a0 a1 a2 a3 a4 a5 a6 a7 a8 a9 a10 a11 a12 a13 a14 a15 a16 a17 a18 a19 a20 a21 a22 a23 a24 a25 a26 a27 a28 0 loftSize startWind seed draftLoft draftStart draftSeed length textSize start next_ token value error errorAt number undos) := hD
  refine lv_aload_n hx hb dX9_errorPosition_5 rfl (lv_at hl 0 rfl) ?_
  refine va_get (D := D) (ci := 9) (v := .int errorAt) (C := RX9) (T := TX9) (N := 45) hx hb hts in_X9 hown hK hP 0 rfl rfl 34 (by decide) lk_75 (fun _ h9 => h9) rfl dX9_errorPosition_6 ?_
  cases hf
  exact kR _ _ _ _ hP hD hS dX9_errorPosition_9
abbrev w_X9_regionCount (kc : Nat → ClassId) (a0 a1 a2 a3 a4 a5 a6 a7 a8 a9 a10 a11 a12 a13 a14 a15 a16 a17 a18 a19 a20 a21 a22 a23 a24 a25 a26 a27 a28 : Nat) (thrown : Int32) (loftSize : Int32) (startWind : Int32) (seed : Int32) (draftLoft : Int32) (draftStart : Int32) (draftSeed : Int32) (length : Int32) (textSize : Int32) (start : Int32) (next_ : Int32) (token : Int32) (value : Int32) (error : Int32) (errorAt : Int32) (number : Int32) (undos : Int32) (regions : Nat → Int32) : va_W := [(a0, .inr (9, [.int thrown, .ref a1, .ref a2, .ref a3, .ref a4, .ref a5, .ref a6, .ref a7, .ref a8, .ref a9, .ref a10, .ref a11, .ref a12, .ref a13, .ref a14, .ref a15, .ref a16, .ref a17, .ref a18, .ref a19, .int loftSize, .int startWind, .int seed, .int draftLoft, .int draftStart, .int draftSeed, .ref a20, .int length, .int textSize, .int start, .int next_, .int token, .int value, .int error, .int errorAt, .int number, .ref a21, .ref a22, .ref a23, .ref a24, .ref a25, .int undos, .ref a26, .ref a27, .ref a28])), (a2, .inl (kc 1, 2, .inl regions))]
set_option maxHeartbeats 4000000 in
set_option maxRecDepth 100000 in
theorem c_X9_regionCount (l : Launch) (D : va_G) (kc : Nat → ClassId) (N : Nat) (a0 a1 a2 a3 a4 a5 a6 a7 a8 a9 a10 a11 a12 a13 a14 a15 a16 a17 a18 a19 a20 a21 a22 a23 a24 a25 a26 a27 a28 : Nat) (thrown : Int32) (loftSize : Int32) (startWind : Int32) (seed : Int32) (draftLoft : Int32) (draftStart : Int32) (draftSeed : Int32) (length : Int32) (textSize : Int32) (start : Int32) (next_ : Int32) (token : Int32) (value : Int32) (error : Int32) (errorAt : Int32) (number : Int32) (undos : Int32) (regions : Nat → Int32) (r_ : Int32) (thrown' : Int32) (hf : f_X9_regionCount N regions = some (r_, thrown')) : MI l yX9_regionCount wsX9_regionCount ({ frames := 0, cells := 0, slots := 0, locals := 0 }) D kc [.ref a0] (w_X9_regionCount kc a0 a1 a2 a3 a4 a5 a6 a7 a8 a9 a10 a11 a12 a13 a14 a15 a16 a17 a18 a19 a20 a21 a22 a23 a24 a25 a26 a27 a28 thrown loftSize startWind seed draftLoft draftStart draftSeed length textSize start next_ token value error errorAt number undos regions) (w_X9_regionCount kc a0 a1 a2 a3 a4 a5 a6 a7 a8 a9 a10 a11 a12 a13 a14 a15 a16 a17 a18 a19 a20 a21 a22 a23 a24 a25 a26 a27 a28 thrown' loftSize startWind seed draftLoft draftStart draftSeed length textSize start next_ token value error errorAt number undos regions) r_ := by
  refine gM_I (cc := cX9_regionCount) (maxL := 1) (by decide) rfl (Nat.le_of_ble_eq_true rfl) ?_
  intro p e s m below meth c A ls Q hx hb hml hown hts hN hK hP hD hA hl kR
  have hS : va_S A s.heap s.heap [] := va_S.rf
  have hl : lv_has ls 1 [(0, .ref a0)] := hl
  have in_X9 : ∀ w ∈ u_ws RX9 TX9 45, w ∈ wsX9_regionCount := by decide +kernel
  have lk_1 := hts (.fieldLink RX9 1 "BalloonMailModel" "thrown" "I") (by decide +kernel)
  have lk_17 := hts (.fieldLink RX9 17 "BalloonMailModel" "regions" "[I") (by decide +kernel)
  unfold f_X9_regionCount at hf
  refine lv_aload_n hx hb dX9_regionCount_0 rfl (lv_at hl 0 rfl) ?_
  refine lv_iconst (v := 0) hx hb dX9_regionCount_1 (by decide) ?_
  refine va_put (D := D) (ci := 9) (v := .int 0) (ty := .int) (C := RX9) (T := TX9) (N := 45) hx hb hts in_X9 tyX9 tyX9_ok nmX9 hown hK hP hD hS 0 rfl rfl 0 (by decide) lk_1 (fun _ h9 => h9) rfl (by decide +kernel) rfl rfl (Nat.le_of_ble_eq_true rfl) dX9_regionCount_2 (fun H locs hP hD hS => ?_)
  have hP : va_P D vwCl (w_X9_regionCount kc a0 a1 a2 a3 a4 a5 a6 a7 a8 a9 a10 a11 a12 a13 a14 a15 a16 a17 a18 a19 a20 a21 a22 a23 a24 a25 a26 a27 a28 0 loftSize startWind seed draftLoft draftStart draftSeed length textSize start next_ token value error errorAt number undos regions) H := hP
  have hD : va_D A (w_X9_regionCount kc a0 a1 a2 a3 a4 a5 a6 a7 a8 a9 a10 a11 a12 a13 a14 a15 a16 a17 a18 a19 a20 a21 a22 a23 a24 a25 a26 a27 a28 0 loftSize startWind seed draftLoft draftStart draftSeed length textSize start next_ token value error errorAt number undos regions) := hD
  refine lv_aload_n hx hb dX9_regionCount_5 rfl (lv_at hl 0 rfl) ?_
  refine va_get (D := D) (ci := 9) (v := .ref a2) (C := RX9) (T := TX9) (N := 45) hx hb hts in_X9 hown hK hP 0 rfl rfl 2 (by decide) lk_17 (fun _ h9 => h9) rfl dX9_regionCount_6 ?_
  refine lv_iconst (v := 0) hx hb dX9_regionCount_9 (by decide) ?_
  obtain ⟨hi, hf⟩ := gIx_some hf
  refine va_iald hx hb hK hP 1 1 rfl rfl hi dX9_regionCount_10 ?_
  cases hf
  exact kR _ _ _ _ hP hD hS dX9_regionCount_11
abbrev w_X9_windCount (kc : Nat → ClassId) (a0 a1 a2 a3 a4 a5 a6 a7 a8 a9 a10 a11 a12 a13 a14 a15 a16 a17 a18 a19 a20 a21 a22 a23 a24 a25 a26 a27 a28 : Nat) (thrown : Int32) (loftSize : Int32) (startWind : Int32) (seed : Int32) (draftLoft : Int32) (draftStart : Int32) (draftSeed : Int32) (length : Int32) (textSize : Int32) (start : Int32) (next_ : Int32) (token : Int32) (value : Int32) (error : Int32) (errorAt : Int32) (number : Int32) (undos : Int32) (winds : Nat → Int32) : va_W := [(a0, .inr (9, [.int thrown, .ref a1, .ref a2, .ref a3, .ref a4, .ref a5, .ref a6, .ref a7, .ref a8, .ref a9, .ref a10, .ref a11, .ref a12, .ref a13, .ref a14, .ref a15, .ref a16, .ref a17, .ref a18, .ref a19, .int loftSize, .int startWind, .int seed, .int draftLoft, .int draftStart, .int draftSeed, .ref a20, .int length, .int textSize, .int start, .int next_, .int token, .int value, .int error, .int errorAt, .int number, .ref a21, .ref a22, .ref a23, .ref a24, .ref a25, .int undos, .ref a26, .ref a27, .ref a28])), (a6, .inl (kc 1, 2, .inl winds))]
set_option maxHeartbeats 4000000 in
set_option maxRecDepth 100000 in
theorem c_X9_windCount (l : Launch) (D : va_G) (kc : Nat → ClassId) (N : Nat) (a0 a1 a2 a3 a4 a5 a6 a7 a8 a9 a10 a11 a12 a13 a14 a15 a16 a17 a18 a19 a20 a21 a22 a23 a24 a25 a26 a27 a28 : Nat) (thrown : Int32) (loftSize : Int32) (startWind : Int32) (seed : Int32) (draftLoft : Int32) (draftStart : Int32) (draftSeed : Int32) (length : Int32) (textSize : Int32) (start : Int32) (next_ : Int32) (token : Int32) (value : Int32) (error : Int32) (errorAt : Int32) (number : Int32) (undos : Int32) (winds : Nat → Int32) (r_ : Int32) (thrown' : Int32) (hf : f_X9_windCount N winds = some (r_, thrown')) : MI l yX9_windCount wsX9_windCount ({ frames := 0, cells := 0, slots := 0, locals := 0 }) D kc [.ref a0] (w_X9_windCount kc a0 a1 a2 a3 a4 a5 a6 a7 a8 a9 a10 a11 a12 a13 a14 a15 a16 a17 a18 a19 a20 a21 a22 a23 a24 a25 a26 a27 a28 thrown loftSize startWind seed draftLoft draftStart draftSeed length textSize start next_ token value error errorAt number undos winds) (w_X9_windCount kc a0 a1 a2 a3 a4 a5 a6 a7 a8 a9 a10 a11 a12 a13 a14 a15 a16 a17 a18 a19 a20 a21 a22 a23 a24 a25 a26 a27 a28 thrown' loftSize startWind seed draftLoft draftStart draftSeed length textSize start next_ token value error errorAt number undos winds) r_ := by
  refine gM_I (cc := cX9_windCount) (maxL := 1) (by decide) rfl (Nat.le_of_ble_eq_true rfl) ?_
  intro p e s m below meth c A ls Q hx hb hml hown hts hN hK hP hD hA hl kR
  have hS : va_S A s.heap s.heap [] := va_S.rf
  have hl : lv_has ls 1 [(0, .ref a0)] := hl
  have in_X9 : ∀ w ∈ u_ws RX9 TX9 45, w ∈ wsX9_windCount := by decide +kernel
  have lk_1 := hts (.fieldLink RX9 1 "BalloonMailModel" "thrown" "I") (by decide +kernel)
  have lk_29 := hts (.fieldLink RX9 29 "BalloonMailModel" "winds" "[I") (by decide +kernel)
  unfold f_X9_windCount at hf
  refine lv_aload_n hx hb dX9_windCount_0 rfl (lv_at hl 0 rfl) ?_
  refine lv_iconst (v := 0) hx hb dX9_windCount_1 (by decide) ?_
  refine va_put (D := D) (ci := 9) (v := .int 0) (ty := .int) (C := RX9) (T := TX9) (N := 45) hx hb hts in_X9 tyX9 tyX9_ok nmX9 hown hK hP hD hS 0 rfl rfl 0 (by decide) lk_1 (fun _ h9 => h9) rfl (by decide +kernel) rfl rfl (Nat.le_of_ble_eq_true rfl) dX9_windCount_2 (fun H locs hP hD hS => ?_)
  have hP : va_P D vwCl (w_X9_windCount kc a0 a1 a2 a3 a4 a5 a6 a7 a8 a9 a10 a11 a12 a13 a14 a15 a16 a17 a18 a19 a20 a21 a22 a23 a24 a25 a26 a27 a28 0 loftSize startWind seed draftLoft draftStart draftSeed length textSize start next_ token value error errorAt number undos winds) H := hP
  have hD : va_D A (w_X9_windCount kc a0 a1 a2 a3 a4 a5 a6 a7 a8 a9 a10 a11 a12 a13 a14 a15 a16 a17 a18 a19 a20 a21 a22 a23 a24 a25 a26 a27 a28 0 loftSize startWind seed draftLoft draftStart draftSeed length textSize start next_ token value error errorAt number undos winds) := hD
  refine lv_aload_n hx hb dX9_windCount_5 rfl (lv_at hl 0 rfl) ?_
  refine va_get (D := D) (ci := 9) (v := .ref a6) (C := RX9) (T := TX9) (N := 45) hx hb hts in_X9 hown hK hP 0 rfl rfl 6 (by decide) lk_29 (fun _ h9 => h9) rfl dX9_windCount_6 ?_
  refine lv_iconst (v := 0) hx hb dX9_windCount_9 (by decide) ?_
  obtain ⟨hi, hf⟩ := gIx_some hf
  refine va_iald hx hb hK hP 1 1 rfl rfl hi dX9_windCount_10 ?_
  cases hf
  exact kR _ _ _ _ hP hD hS dX9_windCount_11
abbrev w_X9_balloonCount (kc : Nat → ClassId) (a0 a1 a2 a3 a4 a5 a6 a7 a8 a9 a10 a11 a12 a13 a14 a15 a16 a17 a18 a19 a20 a21 a22 a23 a24 a25 a26 a27 a28 : Nat) (thrown : Int32) (loftSize : Int32) (startWind : Int32) (seed : Int32) (draftLoft : Int32) (draftStart : Int32) (draftSeed : Int32) (length : Int32) (textSize : Int32) (start : Int32) (next_ : Int32) (token : Int32) (value : Int32) (error : Int32) (errorAt : Int32) (number : Int32) (undos : Int32) (balloons : Nat → Int32) : va_W := [(a0, .inr (9, [.int thrown, .ref a1, .ref a2, .ref a3, .ref a4, .ref a5, .ref a6, .ref a7, .ref a8, .ref a9, .ref a10, .ref a11, .ref a12, .ref a13, .ref a14, .ref a15, .ref a16, .ref a17, .ref a18, .ref a19, .int loftSize, .int startWind, .int seed, .int draftLoft, .int draftStart, .int draftSeed, .ref a20, .int length, .int textSize, .int start, .int next_, .int token, .int value, .int error, .int errorAt, .int number, .ref a21, .ref a22, .ref a23, .ref a24, .ref a25, .int undos, .ref a26, .ref a27, .ref a28])), (a14, .inl (kc 1, 2, .inl balloons))]
set_option maxHeartbeats 4000000 in
set_option maxRecDepth 100000 in
theorem c_X9_balloonCount (l : Launch) (D : va_G) (kc : Nat → ClassId) (N : Nat) (a0 a1 a2 a3 a4 a5 a6 a7 a8 a9 a10 a11 a12 a13 a14 a15 a16 a17 a18 a19 a20 a21 a22 a23 a24 a25 a26 a27 a28 : Nat) (thrown : Int32) (loftSize : Int32) (startWind : Int32) (seed : Int32) (draftLoft : Int32) (draftStart : Int32) (draftSeed : Int32) (length : Int32) (textSize : Int32) (start : Int32) (next_ : Int32) (token : Int32) (value : Int32) (error : Int32) (errorAt : Int32) (number : Int32) (undos : Int32) (balloons : Nat → Int32) (r_ : Int32) (thrown' : Int32) (hf : f_X9_balloonCount N balloons = some (r_, thrown')) : MI l yX9_balloonCount wsX9_balloonCount ({ frames := 0, cells := 0, slots := 0, locals := 0 }) D kc [.ref a0] (w_X9_balloonCount kc a0 a1 a2 a3 a4 a5 a6 a7 a8 a9 a10 a11 a12 a13 a14 a15 a16 a17 a18 a19 a20 a21 a22 a23 a24 a25 a26 a27 a28 thrown loftSize startWind seed draftLoft draftStart draftSeed length textSize start next_ token value error errorAt number undos balloons) (w_X9_balloonCount kc a0 a1 a2 a3 a4 a5 a6 a7 a8 a9 a10 a11 a12 a13 a14 a15 a16 a17 a18 a19 a20 a21 a22 a23 a24 a25 a26 a27 a28 thrown' loftSize startWind seed draftLoft draftStart draftSeed length textSize start next_ token value error errorAt number undos balloons) r_ := by
  refine gM_I (cc := cX9_balloonCount) (maxL := 1) (by decide) rfl (Nat.le_of_ble_eq_true rfl) ?_
  intro p e s m below meth c A ls Q hx hb hml hown hts hN hK hP hD hA hl kR
  have hS : va_S A s.heap s.heap [] := va_S.rf
  have hl : lv_has ls 1 [(0, .ref a0)] := hl
  have in_X9 : ∀ w ∈ u_ws RX9 TX9 45, w ∈ wsX9_balloonCount := by decide +kernel
  have lk_1 := hts (.fieldLink RX9 1 "BalloonMailModel" "thrown" "I") (by decide +kernel)
  have lk_53 := hts (.fieldLink RX9 53 "BalloonMailModel" "balloons" "[I") (by decide +kernel)
  unfold f_X9_balloonCount at hf
  refine lv_aload_n hx hb dX9_balloonCount_0 rfl (lv_at hl 0 rfl) ?_
  refine lv_iconst (v := 0) hx hb dX9_balloonCount_1 (by decide) ?_
  refine va_put (D := D) (ci := 9) (v := .int 0) (ty := .int) (C := RX9) (T := TX9) (N := 45) hx hb hts in_X9 tyX9 tyX9_ok nmX9 hown hK hP hD hS 0 rfl rfl 0 (by decide) lk_1 (fun _ h9 => h9) rfl (by decide +kernel) rfl rfl (Nat.le_of_ble_eq_true rfl) dX9_balloonCount_2 (fun H locs hP hD hS => ?_)
  have hP : va_P D vwCl (w_X9_balloonCount kc a0 a1 a2 a3 a4 a5 a6 a7 a8 a9 a10 a11 a12 a13 a14 a15 a16 a17 a18 a19 a20 a21 a22 a23 a24 a25 a26 a27 a28 0 loftSize startWind seed draftLoft draftStart draftSeed length textSize start next_ token value error errorAt number undos balloons) H := hP
  have hD : va_D A (w_X9_balloonCount kc a0 a1 a2 a3 a4 a5 a6 a7 a8 a9 a10 a11 a12 a13 a14 a15 a16 a17 a18 a19 a20 a21 a22 a23 a24 a25 a26 a27 a28 0 loftSize startWind seed draftLoft draftStart draftSeed length textSize start next_ token value error errorAt number undos balloons) := hD
  refine lv_aload_n hx hb dX9_balloonCount_5 rfl (lv_at hl 0 rfl) ?_
  refine va_get (D := D) (ci := 9) (v := .ref a14) (C := RX9) (T := TX9) (N := 45) hx hb hts in_X9 hown hK hP 0 rfl rfl 14 (by decide) lk_53 (fun _ h9 => h9) rfl dX9_balloonCount_6 ?_
  refine lv_iconst (v := 0) hx hb dX9_balloonCount_9 (by decide) ?_
  obtain ⟨hi, hf⟩ := gIx_some hf
  refine va_iald hx hb hK hP 1 1 rfl rfl hi dX9_balloonCount_10 ?_
  cases hf
  exact kR _ _ _ _ hP hD hS dX9_balloonCount_11
abbrev w_X9_letterCount (kc : Nat → ClassId) (a0 a1 a2 a3 a4 a5 a6 a7 a8 a9 a10 a11 a12 a13 a14 a15 a16 a17 a18 a19 a20 a21 a22 a23 a24 a25 a26 a27 a28 : Nat) (thrown : Int32) (loftSize : Int32) (startWind : Int32) (seed : Int32) (draftLoft : Int32) (draftStart : Int32) (draftSeed : Int32) (length : Int32) (textSize : Int32) (start : Int32) (next_ : Int32) (token : Int32) (value : Int32) (error : Int32) (errorAt : Int32) (number : Int32) (undos : Int32) (letters : Nat → Int32) : va_W := [(a0, .inr (9, [.int thrown, .ref a1, .ref a2, .ref a3, .ref a4, .ref a5, .ref a6, .ref a7, .ref a8, .ref a9, .ref a10, .ref a11, .ref a12, .ref a13, .ref a14, .ref a15, .ref a16, .ref a17, .ref a18, .ref a19, .int loftSize, .int startWind, .int seed, .int draftLoft, .int draftStart, .int draftSeed, .ref a20, .int length, .int textSize, .int start, .int next_, .int token, .int value, .int error, .int errorAt, .int number, .ref a21, .ref a22, .ref a23, .ref a24, .ref a25, .int undos, .ref a26, .ref a27, .ref a28])), (a17, .inl (kc 1, 2, .inl letters))]
set_option maxHeartbeats 4000000 in
set_option maxRecDepth 100000 in
theorem c_X9_letterCount (l : Launch) (D : va_G) (kc : Nat → ClassId) (N : Nat) (a0 a1 a2 a3 a4 a5 a6 a7 a8 a9 a10 a11 a12 a13 a14 a15 a16 a17 a18 a19 a20 a21 a22 a23 a24 a25 a26 a27 a28 : Nat) (thrown : Int32) (loftSize : Int32) (startWind : Int32) (seed : Int32) (draftLoft : Int32) (draftStart : Int32) (draftSeed : Int32) (length : Int32) (textSize : Int32) (start : Int32) (next_ : Int32) (token : Int32) (value : Int32) (error : Int32) (errorAt : Int32) (number : Int32) (undos : Int32) (letters : Nat → Int32) (r_ : Int32) (thrown' : Int32) (hf : f_X9_letterCount N letters = some (r_, thrown')) : MI l yX9_letterCount wsX9_letterCount ({ frames := 0, cells := 0, slots := 0, locals := 0 }) D kc [.ref a0] (w_X9_letterCount kc a0 a1 a2 a3 a4 a5 a6 a7 a8 a9 a10 a11 a12 a13 a14 a15 a16 a17 a18 a19 a20 a21 a22 a23 a24 a25 a26 a27 a28 thrown loftSize startWind seed draftLoft draftStart draftSeed length textSize start next_ token value error errorAt number undos letters) (w_X9_letterCount kc a0 a1 a2 a3 a4 a5 a6 a7 a8 a9 a10 a11 a12 a13 a14 a15 a16 a17 a18 a19 a20 a21 a22 a23 a24 a25 a26 a27 a28 thrown' loftSize startWind seed draftLoft draftStart draftSeed length textSize start next_ token value error errorAt number undos letters) r_ := by
  refine gM_I (cc := cX9_letterCount) (maxL := 1) (by decide) rfl (Nat.le_of_ble_eq_true rfl) ?_
  intro p e s m below meth c A ls Q hx hb hml hown hts hN hK hP hD hA hl kR
  have hS : va_S A s.heap s.heap [] := va_S.rf
  have hl : lv_has ls 1 [(0, .ref a0)] := hl
  have in_X9 : ∀ w ∈ u_ws RX9 TX9 45, w ∈ wsX9_letterCount := by decide +kernel
  have lk_1 := hts (.fieldLink RX9 1 "BalloonMailModel" "thrown" "I") (by decide +kernel)
  have lk_62 := hts (.fieldLink RX9 62 "BalloonMailModel" "letters" "[I") (by decide +kernel)
  unfold f_X9_letterCount at hf
  refine lv_aload_n hx hb dX9_letterCount_0 rfl (lv_at hl 0 rfl) ?_
  refine lv_iconst (v := 0) hx hb dX9_letterCount_1 (by decide) ?_
  refine va_put (D := D) (ci := 9) (v := .int 0) (ty := .int) (C := RX9) (T := TX9) (N := 45) hx hb hts in_X9 tyX9 tyX9_ok nmX9 hown hK hP hD hS 0 rfl rfl 0 (by decide) lk_1 (fun _ h9 => h9) rfl (by decide +kernel) rfl rfl (Nat.le_of_ble_eq_true rfl) dX9_letterCount_2 (fun H locs hP hD hS => ?_)
  have hP : va_P D vwCl (w_X9_letterCount kc a0 a1 a2 a3 a4 a5 a6 a7 a8 a9 a10 a11 a12 a13 a14 a15 a16 a17 a18 a19 a20 a21 a22 a23 a24 a25 a26 a27 a28 0 loftSize startWind seed draftLoft draftStart draftSeed length textSize start next_ token value error errorAt number undos letters) H := hP
  have hD : va_D A (w_X9_letterCount kc a0 a1 a2 a3 a4 a5 a6 a7 a8 a9 a10 a11 a12 a13 a14 a15 a16 a17 a18 a19 a20 a21 a22 a23 a24 a25 a26 a27 a28 0 loftSize startWind seed draftLoft draftStart draftSeed length textSize start next_ token value error errorAt number undos letters) := hD
  refine lv_aload_n hx hb dX9_letterCount_5 rfl (lv_at hl 0 rfl) ?_
  refine va_get (D := D) (ci := 9) (v := .ref a17) (C := RX9) (T := TX9) (N := 45) hx hb hts in_X9 hown hK hP 0 rfl rfl 17 (by decide) lk_62 (fun _ h9 => h9) rfl dX9_letterCount_6 ?_
  refine lv_iconst (v := 0) hx hb dX9_letterCount_9 (by decide) ?_
  obtain ⟨hi, hf⟩ := gIx_some hf
  refine va_iald hx hb hK hP 1 1 rfl rfl hi dX9_letterCount_10 ?_
  cases hf
  exact kR _ _ _ _ hP hD hS dX9_letterCount_11
abbrev w_X9_isBalloon (kc : Nat → ClassId) (a0 a1 a2 a3 a4 a5 a6 a7 a8 a9 a10 a11 a12 a13 a14 a15 a16 a17 a18 a19 a20 a21 a22 a23 a24 a25 a26 a27 a28 : Nat) (thrown : Int32) (loftSize : Int32) (startWind : Int32) (seed : Int32) (draftLoft : Int32) (draftStart : Int32) (draftSeed : Int32) (length : Int32) (textSize : Int32) (start : Int32) (next_ : Int32) (token : Int32) (value : Int32) (error : Int32) (errorAt : Int32) (number : Int32) (undos : Int32) (balloons : Nat → Int32) : va_W := [(a0, .inr (9, [.int thrown, .ref a1, .ref a2, .ref a3, .ref a4, .ref a5, .ref a6, .ref a7, .ref a8, .ref a9, .ref a10, .ref a11, .ref a12, .ref a13, .ref a14, .ref a15, .ref a16, .ref a17, .ref a18, .ref a19, .int loftSize, .int startWind, .int seed, .int draftLoft, .int draftStart, .int draftSeed, .ref a20, .int length, .int textSize, .int start, .int next_, .int token, .int value, .int error, .int errorAt, .int number, .ref a21, .ref a22, .ref a23, .ref a24, .ref a25, .int undos, .ref a26, .ref a27, .ref a28])), (a14, .inl (kc 1, 2, .inl balloons))]
set_option maxHeartbeats 4000000 in
set_option maxRecDepth 100000 in
theorem c_X9_isBalloon (l : Launch) (D : va_G) (kc : Nat → ClassId) (N : Nat) (a0 a1 a2 a3 a4 a5 a6 a7 a8 a9 a10 a11 a12 a13 a14 a15 a16 a17 a18 a19 a20 a21 a22 a23 a24 a25 a26 a27 a28 : Nat) (thrown : Int32) (loftSize : Int32) (startWind : Int32) (seed : Int32) (draftLoft : Int32) (draftStart : Int32) (draftSeed : Int32) (length : Int32) (textSize : Int32) (start : Int32) (next_ : Int32) (token : Int32) (value : Int32) (error : Int32) (errorAt : Int32) (number : Int32) (undos : Int32) (balloons : Nat → Int32) (x1 : Int32) (r_ : Int32) (hf : f_X9_isBalloon N balloons x1 = some r_) : MZ l yX9_isBalloon wsX9_isBalloon ({ frames := 1, cells := 0, slots := 0, locals := 22 }) D kc [.ref a0, .int x1] (w_X9_isBalloon kc a0 a1 a2 a3 a4 a5 a6 a7 a8 a9 a10 a11 a12 a13 a14 a15 a16 a17 a18 a19 a20 a21 a22 a23 a24 a25 a26 a27 a28 thrown loftSize startWind seed draftLoft draftStart draftSeed length textSize start next_ token value error errorAt number undos balloons) (w_X9_isBalloon kc a0 a1 a2 a3 a4 a5 a6 a7 a8 a9 a10 a11 a12 a13 a14 a15 a16 a17 a18 a19 a20 a21 a22 a23 a24 a25 a26 a27 a28 thrown loftSize startWind seed draftLoft draftStart draftSeed length textSize start next_ token value error errorAt number undos balloons) r_ := by
  refine gM_Z (cc := cX9_isBalloon) (maxL := 2) (by decide) rfl (Nat.le_of_ble_eq_true rfl) ?_
  intro p e s m below meth c A ls Q hx hb hml hown hts hN hK hP hD hA hl kR
  have hS : va_S A s.heap s.heap [] := va_S.rf
  have hl : lv_has ls 2 [(0, .ref a0), (1, .int x1)] := hl
  have in_X9 : ∀ w ∈ u_ws RX9 TX9 45, w ∈ wsX9_isBalloon := by decide +kernel
  have lk_53 := hts (.fieldLink RX9 53 "BalloonMailModel" "balloons" "[I") (by decide +kernel)
  unfold f_X9_isBalloon at hf
  refine lv_iload_n hx hb dX9_isBalloon_0 rfl (lv_at hl 1 rfl) ?_
  refine lv_iconst (v := 0) hx hb dX9_isBalloon_1 (by decide) ?_
  refine lv_aload_n hx hb dX9_isBalloon_2 rfl (lv_at hl 0 rfl) ?_
  refine va_get (D := D) (ci := 9) (v := .ref a14) (C := RX9) (T := TX9) (N := 45) hx hb hts in_X9 hown hK hP 0 rfl rfl 14 (by decide) lk_53 (fun _ h9 => h9) rfl dX9_isBalloon_3 ?_
  refine lv_iconst (v := 0) hx hb dX9_isBalloon_6 (by decide) ?_
  obtain ⟨hi, hf⟩ := gIx_some hf
  refine va_iald hx hb hK hP 1 1 rfl rfl hi dX9_isBalloon_7 ?_
  refine lv_iconst (v := 1) hx hb dX9_isBalloon_8 (by decide) ?_
  refine lv_isub hx hb dX9_isBalloon_9 ?_
  obtain ⟨r_1, hc, hf⟩ := ob1_some hf
  refine g_SZ (As := [.int x1, .int 0, .int ((balloons (0 : Int32).toNatClampNeg) - 1)]) (rest := []) (ws' := (w_X9_isBalloon kc a0 a1 a2 a3 a4 a5 a6 a7 a8 a9 a10 a11 a12 a13 a14 a15 a16 a17 a18 a19 a20 a21 a22 a23 a24 a25 a26 a27 a28 thrown loftSize startWind seed draftLoft draftStart draftSeed length textSize start next_ token value error errorAt number undos balloons)) ⟨hx, hb, hml, hown, hts⟩ hN hK hP hD hS hA (c_X9_within l D kc N x1 0 ((balloons (0 : Int32).toNatClampNeg) - 1) r_1 hc) (va_cwS 3 hts gX9_isBalloon_X9_within rfl rfl rfl (by decide +kernel) ⟨Nat.le_of_ble_eq_true rfl, Nat.le_of_ble_eq_true rfl⟩) [] [0, 1] [0, 1] (by exact ⟨rfl, rfl, by decide, rfl⟩) rfl hl.1 rfl (Nat.le_of_ble_eq_true rfl) dX9_isBalloon_10 ⟨Nat.le_refl _, Nat.le_refl _⟩ (fun H locs hz hP hD hS => ?_)
  have hz_2 := hz
  cases hf
  exact kR _ _ _ _ hz_2 hP hD hS dX9_isBalloon_13
abbrev w_X9_isLetter (kc : Nat → ClassId) (a0 a1 a2 a3 a4 a5 a6 a7 a8 a9 a10 a11 a12 a13 a14 a15 a16 a17 a18 a19 a20 a21 a22 a23 a24 a25 a26 a27 a28 : Nat) (thrown : Int32) (loftSize : Int32) (startWind : Int32) (seed : Int32) (draftLoft : Int32) (draftStart : Int32) (draftSeed : Int32) (length : Int32) (textSize : Int32) (start : Int32) (next_ : Int32) (token : Int32) (value : Int32) (error : Int32) (errorAt : Int32) (number : Int32) (undos : Int32) (letters : Nat → Int32) : va_W := [(a0, .inr (9, [.int thrown, .ref a1, .ref a2, .ref a3, .ref a4, .ref a5, .ref a6, .ref a7, .ref a8, .ref a9, .ref a10, .ref a11, .ref a12, .ref a13, .ref a14, .ref a15, .ref a16, .ref a17, .ref a18, .ref a19, .int loftSize, .int startWind, .int seed, .int draftLoft, .int draftStart, .int draftSeed, .ref a20, .int length, .int textSize, .int start, .int next_, .int token, .int value, .int error, .int errorAt, .int number, .ref a21, .ref a22, .ref a23, .ref a24, .ref a25, .int undos, .ref a26, .ref a27, .ref a28])), (a17, .inl (kc 1, 2, .inl letters))]
set_option maxHeartbeats 4000000 in
set_option maxRecDepth 100000 in
theorem c_X9_isLetter (l : Launch) (D : va_G) (kc : Nat → ClassId) (N : Nat) (a0 a1 a2 a3 a4 a5 a6 a7 a8 a9 a10 a11 a12 a13 a14 a15 a16 a17 a18 a19 a20 a21 a22 a23 a24 a25 a26 a27 a28 : Nat) (thrown : Int32) (loftSize : Int32) (startWind : Int32) (seed : Int32) (draftLoft : Int32) (draftStart : Int32) (draftSeed : Int32) (length : Int32) (textSize : Int32) (start : Int32) (next_ : Int32) (token : Int32) (value : Int32) (error : Int32) (errorAt : Int32) (number : Int32) (undos : Int32) (letters : Nat → Int32) (x1 : Int32) (r_ : Int32) (hf : f_X9_isLetter N letters x1 = some r_) : MZ l yX9_isLetter wsX9_isLetter ({ frames := 1, cells := 0, slots := 0, locals := 22 }) D kc [.ref a0, .int x1] (w_X9_isLetter kc a0 a1 a2 a3 a4 a5 a6 a7 a8 a9 a10 a11 a12 a13 a14 a15 a16 a17 a18 a19 a20 a21 a22 a23 a24 a25 a26 a27 a28 thrown loftSize startWind seed draftLoft draftStart draftSeed length textSize start next_ token value error errorAt number undos letters) (w_X9_isLetter kc a0 a1 a2 a3 a4 a5 a6 a7 a8 a9 a10 a11 a12 a13 a14 a15 a16 a17 a18 a19 a20 a21 a22 a23 a24 a25 a26 a27 a28 thrown loftSize startWind seed draftLoft draftStart draftSeed length textSize start next_ token value error errorAt number undos letters) r_ := by
  refine gM_Z (cc := cX9_isLetter) (maxL := 2) (by decide) rfl (Nat.le_of_ble_eq_true rfl) ?_
  intro p e s m below meth c A ls Q hx hb hml hown hts hN hK hP hD hA hl kR
  have hS : va_S A s.heap s.heap [] := va_S.rf
  have hl : lv_has ls 2 [(0, .ref a0), (1, .int x1)] := hl
  have in_X9 : ∀ w ∈ u_ws RX9 TX9 45, w ∈ wsX9_isLetter := by decide +kernel
  have lk_62 := hts (.fieldLink RX9 62 "BalloonMailModel" "letters" "[I") (by decide +kernel)
  unfold f_X9_isLetter at hf
  refine lv_iload_n hx hb dX9_isLetter_0 rfl (lv_at hl 1 rfl) ?_
  refine lv_iconst (v := 0) hx hb dX9_isLetter_1 (by decide) ?_
  refine lv_aload_n hx hb dX9_isLetter_2 rfl (lv_at hl 0 rfl) ?_
  refine va_get (D := D) (ci := 9) (v := .ref a17) (C := RX9) (T := TX9) (N := 45) hx hb hts in_X9 hown hK hP 0 rfl rfl 17 (by decide) lk_62 (fun _ h9 => h9) rfl dX9_isLetter_3 ?_
  refine lv_iconst (v := 0) hx hb dX9_isLetter_6 (by decide) ?_
  obtain ⟨hi, hf⟩ := gIx_some hf
  refine va_iald hx hb hK hP 1 1 rfl rfl hi dX9_isLetter_7 ?_
  refine lv_iconst (v := 1) hx hb dX9_isLetter_8 (by decide) ?_
  refine lv_isub hx hb dX9_isLetter_9 ?_
  obtain ⟨r_1, hc, hf⟩ := ob1_some hf
  refine g_SZ (As := [.int x1, .int 0, .int ((letters (0 : Int32).toNatClampNeg) - 1)]) (rest := []) (ws' := (w_X9_isLetter kc a0 a1 a2 a3 a4 a5 a6 a7 a8 a9 a10 a11 a12 a13 a14 a15 a16 a17 a18 a19 a20 a21 a22 a23 a24 a25 a26 a27 a28 thrown loftSize startWind seed draftLoft draftStart draftSeed length textSize start next_ token value error errorAt number undos letters)) ⟨hx, hb, hml, hown, hts⟩ hN hK hP hD hS hA (c_X9_within l D kc N x1 0 ((letters (0 : Int32).toNatClampNeg) - 1) r_1 hc) (va_cwS 3 hts gX9_isLetter_X9_within rfl rfl rfl (by decide +kernel) ⟨Nat.le_of_ble_eq_true rfl, Nat.le_of_ble_eq_true rfl⟩) [] [0, 1] [0, 1] (by exact ⟨rfl, rfl, by decide, rfl⟩) rfl hl.1 rfl (Nat.le_of_ble_eq_true rfl) dX9_isLetter_10 ⟨Nat.le_refl _, Nat.le_refl _⟩ (fun H locs hz hP hD hS => ?_)
  have hz_2 := hz
  cases hf
  exact kR _ _ _ _ hz_2 hP hD hS dX9_isLetter_13
abbrev w_X9_areLetters (kc : Nat → ClassId) (a0 a1 a2 a3 a4 a5 a6 a7 a8 a9 a10 a11 a12 a13 a14 a15 a16 a17 a18 a19 a20 a21 a22 a23 a24 a25 a26 a27 a28 : Nat) (thrown : Int32) (loftSize : Int32) (startWind : Int32) (seed : Int32) (draftLoft : Int32) (draftStart : Int32) (draftSeed : Int32) (length : Int32) (textSize : Int32) (start : Int32) (next_ : Int32) (token : Int32) (value : Int32) (error : Int32) (errorAt : Int32) (number : Int32) (undos : Int32) (letters : Nat → Int32) : va_W := [(a0, .inr (9, [.int thrown, .ref a1, .ref a2, .ref a3, .ref a4, .ref a5, .ref a6, .ref a7, .ref a8, .ref a9, .ref a10, .ref a11, .ref a12, .ref a13, .ref a14, .ref a15, .ref a16, .ref a17, .ref a18, .ref a19, .int loftSize, .int startWind, .int seed, .int draftLoft, .int draftStart, .int draftSeed, .ref a20, .int length, .int textSize, .int start, .int next_, .int token, .int value, .int error, .int errorAt, .int number, .ref a21, .ref a22, .ref a23, .ref a24, .ref a25, .int undos, .ref a26, .ref a27, .ref a28])), (a17, .inl (kc 1, 2, .inl letters))]
set_option maxHeartbeats 4000000 in
set_option maxRecDepth 100000 in
theorem c_X9_areLetters (l : Launch) (D : va_G) (kc : Nat → ClassId) (N : Nat) (a0 a1 a2 a3 a4 a5 a6 a7 a8 a9 a10 a11 a12 a13 a14 a15 a16 a17 a18 a19 a20 a21 a22 a23 a24 a25 a26 a27 a28 : Nat) (thrown : Int32) (loftSize : Int32) (startWind : Int32) (seed : Int32) (draftLoft : Int32) (draftStart : Int32) (draftSeed : Int32) (length : Int32) (textSize : Int32) (start : Int32) (next_ : Int32) (token : Int32) (value : Int32) (error : Int32) (errorAt : Int32) (number : Int32) (undos : Int32) (letters : Nat → Int32) (x1 : Int32) (r_ : Int32) (hf : f_X9_areLetters N letters x1 = some r_) : MZ l yX9_areLetters wsX9_areLetters ({ frames := 1, cells := 0, slots := 0, locals := 22 }) D kc [.ref a0, .int x1] (w_X9_areLetters kc a0 a1 a2 a3 a4 a5 a6 a7 a8 a9 a10 a11 a12 a13 a14 a15 a16 a17 a18 a19 a20 a21 a22 a23 a24 a25 a26 a27 a28 thrown loftSize startWind seed draftLoft draftStart draftSeed length textSize start next_ token value error errorAt number undos letters) (w_X9_areLetters kc a0 a1 a2 a3 a4 a5 a6 a7 a8 a9 a10 a11 a12 a13 a14 a15 a16 a17 a18 a19 a20 a21 a22 a23 a24 a25 a26 a27 a28 thrown loftSize startWind seed draftLoft draftStart draftSeed length textSize start next_ token value error errorAt number undos letters) r_ := by
  refine gM_Z (cc := cX9_areLetters) (maxL := 2) (by decide) rfl (Nat.le_of_ble_eq_true rfl) ?_
  intro p e s m below meth c A ls Q hx hb hml hown hts hN hK hP hD hA hl kR
  have hS : va_S A s.heap s.heap [] := va_S.rf
  have hl : lv_has ls 2 [(0, .ref a0), (1, .int x1)] := hl
  have in_X9 : ∀ w ∈ u_ws RX9 TX9 45, w ∈ wsX9_areLetters := by decide +kernel
  have lk_62 := hts (.fieldLink RX9 62 "BalloonMailModel" "letters" "[I") (by decide +kernel)
  unfold f_X9_areLetters at hf
  refine lv_iload_n hx hb dX9_areLetters_0 rfl (lv_at hl 1 rfl) ?_
  refine lv_iconst (v := 0) hx hb dX9_areLetters_1 (by decide) ?_
  refine lv_iconst (v := 1) hx hb dX9_areLetters_2 (by decide) ?_
  refine lv_aload_n hx hb dX9_areLetters_3 rfl (lv_at hl 0 rfl) ?_
  refine va_get (D := D) (ci := 9) (v := .ref a17) (C := RX9) (T := TX9) (N := 45) hx hb hts in_X9 hown hK hP 0 rfl rfl 17 (by decide) lk_62 (fun _ h9 => h9) rfl dX9_areLetters_4 ?_
  refine lv_iconst (v := 0) hx hb dX9_areLetters_7 (by decide) ?_
  obtain ⟨hi, hf⟩ := gIx_some hf
  refine va_iald hx hb hK hP 1 1 rfl rfl hi dX9_areLetters_8 ?_
  refine lv_ishl hx hb dX9_areLetters_9 ?_
  refine lv_iconst (v := 1) hx hb dX9_areLetters_10 (by decide) ?_
  refine lv_isub hx hb dX9_areLetters_11 ?_
  obtain ⟨r_1, hc, hf⟩ := ob1_some hf
  refine g_SZ (As := [.int x1, .int 0, .int (((1 : Int32) <<< (((letters (0 : Int32).toNatClampNeg) : Int32) &&& 31)) - 1)]) (rest := []) (ws' := (w_X9_areLetters kc a0 a1 a2 a3 a4 a5 a6 a7 a8 a9 a10 a11 a12 a13 a14 a15 a16 a17 a18 a19 a20 a21 a22 a23 a24 a25 a26 a27 a28 thrown loftSize startWind seed draftLoft draftStart draftSeed length textSize start next_ token value error errorAt number undos letters)) ⟨hx, hb, hml, hown, hts⟩ hN hK hP hD hS hA (c_X9_within l D kc N x1 0 (((1 : Int32) <<< (((letters (0 : Int32).toNatClampNeg) : Int32) &&& 31)) - 1) r_1 hc) (va_cwS 3 hts gX9_areLetters_X9_within rfl rfl rfl (by decide +kernel) ⟨Nat.le_of_ble_eq_true rfl, Nat.le_of_ble_eq_true rfl⟩) [] [0, 1] [0, 1] (by exact ⟨rfl, rfl, by decide, rfl⟩) rfl hl.1 rfl (Nat.le_of_ble_eq_true rfl) dX9_areLetters_12 ⟨Nat.le_refl _, Nat.le_refl _⟩ (fun H locs hz hP hD hS => ?_)
  have hz_2 := hz
  cases hf
  exact kR _ _ _ _ hz_2 hP hD hS dX9_areLetters_15
abbrev w_X9_capacity (kc : Nat → ClassId) (a0 a1 a2 a3 a4 a5 a6 a7 a8 a9 a10 a11 a12 a13 a14 a15 a16 a17 a18 a19 a20 a21 a22 a23 a24 a25 a26 a27 a28 : Nat) (thrown : Int32) (loftSize : Int32) (startWind : Int32) (seed : Int32) (draftLoft : Int32) (draftStart : Int32) (draftSeed : Int32) (length : Int32) (textSize : Int32) (start : Int32) (next_ : Int32) (token : Int32) (value : Int32) (error : Int32) (errorAt : Int32) (number : Int32) (undos : Int32) (balloons : Nat → Int32) (room_ : Nat → Int32) : va_W := [(a0, .inr (9, [.int thrown, .ref a1, .ref a2, .ref a3, .ref a4, .ref a5, .ref a6, .ref a7, .ref a8, .ref a9, .ref a10, .ref a11, .ref a12, .ref a13, .ref a14, .ref a15, .ref a16, .ref a17, .ref a18, .ref a19, .int loftSize, .int startWind, .int seed, .int draftLoft, .int draftStart, .int draftSeed, .ref a20, .int length, .int textSize, .int start, .int next_, .int token, .int value, .int error, .int errorAt, .int number, .ref a21, .ref a22, .ref a23, .ref a24, .ref a25, .int undos, .ref a26, .ref a27, .ref a28])), (a14, .inl (kc 1, 2, .inl balloons)), (a15, .inl (kc 1, 20, .inl room_))]
set_option maxHeartbeats 4000000 in
set_option maxRecDepth 100000 in
theorem c_X9_capacity (l : Launch) (D : va_G) (kc : Nat → ClassId) (N : Nat) (a0 a1 a2 a3 a4 a5 a6 a7 a8 a9 a10 a11 a12 a13 a14 a15 a16 a17 a18 a19 a20 a21 a22 a23 a24 a25 a26 a27 a28 : Nat) (thrown : Int32) (loftSize : Int32) (startWind : Int32) (seed : Int32) (draftLoft : Int32) (draftStart : Int32) (draftSeed : Int32) (length : Int32) (textSize : Int32) (start : Int32) (next_ : Int32) (token : Int32) (value : Int32) (error : Int32) (errorAt : Int32) (number : Int32) (undos : Int32) (balloons : Nat → Int32) (room_ : Nat → Int32) (x1 : Int32) (r_ : Int32) (thrown' : Int32) (hf : f_X9_capacity N balloons room_ x1 = some (r_, thrown')) : MI l yX9_capacity wsX9_capacity ({ frames := 2, cells := 0, slots := 0, locals := 43 }) D kc [.ref a0, .int x1] (w_X9_capacity kc a0 a1 a2 a3 a4 a5 a6 a7 a8 a9 a10 a11 a12 a13 a14 a15 a16 a17 a18 a19 a20 a21 a22 a23 a24 a25 a26 a27 a28 thrown loftSize startWind seed draftLoft draftStart draftSeed length textSize start next_ token value error errorAt number undos balloons room_) (w_X9_capacity kc a0 a1 a2 a3 a4 a5 a6 a7 a8 a9 a10 a11 a12 a13 a14 a15 a16 a17 a18 a19 a20 a21 a22 a23 a24 a25 a26 a27 a28 thrown' loftSize startWind seed draftLoft draftStart draftSeed length textSize start next_ token value error errorAt number undos balloons room_) r_ := by
  refine gM_I (cc := cX9_capacity) (maxL := 2) (by decide) rfl (Nat.le_of_ble_eq_true rfl) ?_
  intro p e s m below meth c A ls Q hx hb hml hown hts hN hK hP hD hA hl kR
  have hS : va_S A s.heap s.heap [] := va_S.rf
  have hl : lv_has ls 2 [(0, .ref a0), (1, .int x1)] := hl
  have in_X9 : ∀ w ∈ u_ws RX9 TX9 45, w ∈ wsX9_capacity := by decide +kernel
  have lk_1 := hts (.fieldLink RX9 1 "BalloonMailModel" "thrown" "I") (by decide +kernel)
  have lk_56 := hts (.fieldLink RX9 56 "BalloonMailModel" "room" "[I") (by decide +kernel)
  unfold f_X9_capacity at hf
  refine lv_aload_n hx hb dX9_capacity_0 rfl (lv_at hl 0 rfl) ?_
  refine lv_iconst (v := 0) hx hb dX9_capacity_1 (by decide) ?_
  refine va_put (D := D) (ci := 9) (v := .int 0) (ty := .int) (C := RX9) (T := TX9) (N := 45) hx hb hts in_X9 tyX9 tyX9_ok nmX9 hown hK hP hD hS 0 rfl rfl 0 (by decide) lk_1 (fun _ h9 => h9) rfl (by decide +kernel) rfl rfl (Nat.le_of_ble_eq_true rfl) dX9_capacity_2 (fun H locs hP hD hS => ?_)
  have hP : va_P D vwCl (w_X9_capacity kc a0 a1 a2 a3 a4 a5 a6 a7 a8 a9 a10 a11 a12 a13 a14 a15 a16 a17 a18 a19 a20 a21 a22 a23 a24 a25 a26 a27 a28 0 loftSize startWind seed draftLoft draftStart draftSeed length textSize start next_ token value error errorAt number undos balloons room_) H := hP
  have hD : va_D A (w_X9_capacity kc a0 a1 a2 a3 a4 a5 a6 a7 a8 a9 a10 a11 a12 a13 a14 a15 a16 a17 a18 a19 a20 a21 a22 a23 a24 a25 a26 a27 a28 0 loftSize startWind seed draftLoft draftStart draftSeed length textSize start next_ token value error errorAt number undos balloons room_) := hD
  refine lv_aload_n hx hb dX9_capacity_5 rfl (lv_at hl 0 rfl) ?_
  refine lv_iload_n hx hb dX9_capacity_6 rfl (lv_at hl 1 rfl) ?_
  obtain ⟨r_1, hc, hf⟩ := ob1_some hf
  refine g_VZ (As := [.int x1]) (rest := []) (ws' := (w_X9_capacity kc a0 a1 a2 a3 a4 a5 a6 a7 a8 a9 a10 a11 a12 a13 a14 a15 a16 a17 a18 a19 a20 a21 a22 a23 a24 a25 a26 a27 a28 0 loftSize startWind seed draftLoft draftStart draftSeed length textSize start next_ token value error errorAt number undos balloons room_)) ⟨hx, hb, hml, hown, hts⟩ hN hK hP hD hS hA (c_X9_isBalloon l D kc N a0 a1 a2 a3 a4 a5 a6 a7 a8 a9 a10 a11 a12 a13 a14 a15 a16 a17 a18 a19 a20 a21 a22 a23 a24 a25 a26 a27 a28 0 loftSize startWind seed draftLoft draftStart draftSeed length textSize start next_ token value error errorAt number undos balloons x1 r_1 hc) (cwV 1 hts gX9_capacity_X9_isBalloon rfl rfl rfl (by decide +kernel) ⟨Nat.le_of_ble_eq_true rfl, Nat.le_of_ble_eq_true rfl⟩) [0, 1] [2] [1, 2, 0] (by exact ⟨rfl, rfl, by decide, rfl⟩) 0 9 rfl rfl rfl rfl hl.1 rfl (Nat.le_of_ble_eq_true rfl) dX9_capacity_7 ⟨Nat.le_refl _, Nat.le_refl _⟩ (fun H locs hz hP hD hS => ?_)
  have hz_2 := hz
  refine lv_if_eq (tgt := 22) hx hb dX9_capacity_10 (by decide) (fun hc => ?_) (fun hc => ?_)
  · have hf := o_t hc hf
    refine lv_iconst (v := (-1)) hx hb dX9_capacity_22 (by decide) ?_
    cases hf
    exact kR _ _ _ _ hP hD hS dX9_capacity_23
  · have hf := o_f hc hf
    refine lv_aload_n hx hb dX9_capacity_13 rfl (lv_at hl 0 rfl) ?_
    refine va_get (D := D) (ci := 9) (v := .ref a15) (C := RX9) (T := TX9) (N := 45) hx hb hts in_X9 hown hK hP 0 rfl rfl 15 (by decide) lk_56 (fun _ h9 => h9) rfl dX9_capacity_14 ?_
    refine lv_iload_n hx hb dX9_capacity_17 rfl (lv_at hl 1 rfl) ?_
    obtain ⟨hi, hf⟩ := gIx_some hf
    refine va_iald hx hb hK hP 2 1 rfl rfl hi dX9_capacity_18 ?_
    refine lv_goto (tgt := 23) hx hb dX9_capacity_19 (by decide) ?_
    cases hf
    exact kR _ _ _ _ hP hD hS dX9_capacity_23
abbrev w_X9_letterWeight (kc : Nat → ClassId) (a0 a1 a2 a3 a4 a5 a6 a7 a8 a9 a10 a11 a12 a13 a14 a15 a16 a17 a18 a19 a20 a21 a22 a23 a24 a25 a26 a27 a28 : Nat) (thrown : Int32) (loftSize : Int32) (startWind : Int32) (seed : Int32) (draftLoft : Int32) (draftStart : Int32) (draftSeed : Int32) (length : Int32) (textSize : Int32) (start : Int32) (next_ : Int32) (token : Int32) (value : Int32) (error : Int32) (errorAt : Int32) (number : Int32) (undos : Int32) (letters : Nat → Int32) (weight : Nat → Int32) : va_W := [(a0, .inr (9, [.int thrown, .ref a1, .ref a2, .ref a3, .ref a4, .ref a5, .ref a6, .ref a7, .ref a8, .ref a9, .ref a10, .ref a11, .ref a12, .ref a13, .ref a14, .ref a15, .ref a16, .ref a17, .ref a18, .ref a19, .int loftSize, .int startWind, .int seed, .int draftLoft, .int draftStart, .int draftSeed, .ref a20, .int length, .int textSize, .int start, .int next_, .int token, .int value, .int error, .int errorAt, .int number, .ref a21, .ref a22, .ref a23, .ref a24, .ref a25, .int undos, .ref a26, .ref a27, .ref a28])), (a17, .inl (kc 1, 2, .inl letters)), (a18, .inl (kc 1, 48, .inl weight))]
set_option maxHeartbeats 4000000 in
set_option maxRecDepth 100000 in
theorem c_X9_letterWeight (l : Launch) (D : va_G) (kc : Nat → ClassId) (N : Nat) (a0 a1 a2 a3 a4 a5 a6 a7 a8 a9 a10 a11 a12 a13 a14 a15 a16 a17 a18 a19 a20 a21 a22 a23 a24 a25 a26 a27 a28 : Nat) (thrown : Int32) (loftSize : Int32) (startWind : Int32) (seed : Int32) (draftLoft : Int32) (draftStart : Int32) (draftSeed : Int32) (length : Int32) (textSize : Int32) (start : Int32) (next_ : Int32) (token : Int32) (value : Int32) (error : Int32) (errorAt : Int32) (number : Int32) (undos : Int32) (letters : Nat → Int32) (weight : Nat → Int32) (x1 : Int32) (r_ : Int32) (thrown' : Int32) (hf : f_X9_letterWeight N letters weight x1 = some (r_, thrown')) : MI l yX9_letterWeight wsX9_letterWeight ({ frames := 2, cells := 0, slots := 0, locals := 43 }) D kc [.ref a0, .int x1] (w_X9_letterWeight kc a0 a1 a2 a3 a4 a5 a6 a7 a8 a9 a10 a11 a12 a13 a14 a15 a16 a17 a18 a19 a20 a21 a22 a23 a24 a25 a26 a27 a28 thrown loftSize startWind seed draftLoft draftStart draftSeed length textSize start next_ token value error errorAt number undos letters weight) (w_X9_letterWeight kc a0 a1 a2 a3 a4 a5 a6 a7 a8 a9 a10 a11 a12 a13 a14 a15 a16 a17 a18 a19 a20 a21 a22 a23 a24 a25 a26 a27 a28 thrown' loftSize startWind seed draftLoft draftStart draftSeed length textSize start next_ token value error errorAt number undos letters weight) r_ := by
  refine gM_I (cc := cX9_letterWeight) (maxL := 2) (by decide) rfl (Nat.le_of_ble_eq_true rfl) ?_
  intro p e s m below meth c A ls Q hx hb hml hown hts hN hK hP hD hA hl kR
  have hS : va_S A s.heap s.heap [] := va_S.rf
  have hl : lv_has ls 2 [(0, .ref a0), (1, .int x1)] := hl
  have in_X9 : ∀ w ∈ u_ws RX9 TX9 45, w ∈ wsX9_letterWeight := by decide +kernel
  have lk_1 := hts (.fieldLink RX9 1 "BalloonMailModel" "thrown" "I") (by decide +kernel)
  have lk_65 := hts (.fieldLink RX9 65 "BalloonMailModel" "weight" "[I") (by decide +kernel)
  unfold f_X9_letterWeight at hf
  refine lv_aload_n hx hb dX9_letterWeight_0 rfl (lv_at hl 0 rfl) ?_
  refine lv_iconst (v := 0) hx hb dX9_letterWeight_1 (by decide) ?_
  refine va_put (D := D) (ci := 9) (v := .int 0) (ty := .int) (C := RX9) (T := TX9) (N := 45) hx hb hts in_X9 tyX9 tyX9_ok nmX9 hown hK hP hD hS 0 rfl rfl 0 (by decide) lk_1 (fun _ h9 => h9) rfl (by decide +kernel) rfl rfl (Nat.le_of_ble_eq_true rfl) dX9_letterWeight_2 (fun H locs hP hD hS => ?_)
  have hP : va_P D vwCl (w_X9_letterWeight kc a0 a1 a2 a3 a4 a5 a6 a7 a8 a9 a10 a11 a12 a13 a14 a15 a16 a17 a18 a19 a20 a21 a22 a23 a24 a25 a26 a27 a28 0 loftSize startWind seed draftLoft draftStart draftSeed length textSize start next_ token value error errorAt number undos letters weight) H := hP
  have hD : va_D A (w_X9_letterWeight kc a0 a1 a2 a3 a4 a5 a6 a7 a8 a9 a10 a11 a12 a13 a14 a15 a16 a17 a18 a19 a20 a21 a22 a23 a24 a25 a26 a27 a28 0 loftSize startWind seed draftLoft draftStart draftSeed length textSize start next_ token value error errorAt number undos letters weight) := hD
  refine lv_aload_n hx hb dX9_letterWeight_5 rfl (lv_at hl 0 rfl) ?_
  refine lv_iload_n hx hb dX9_letterWeight_6 rfl (lv_at hl 1 rfl) ?_
  obtain ⟨r_1, hc, hf⟩ := ob1_some hf
  refine g_VZ (As := [.int x1]) (rest := []) (ws' := (w_X9_letterWeight kc a0 a1 a2 a3 a4 a5 a6 a7 a8 a9 a10 a11 a12 a13 a14 a15 a16 a17 a18 a19 a20 a21 a22 a23 a24 a25 a26 a27 a28 0 loftSize startWind seed draftLoft draftStart draftSeed length textSize start next_ token value error errorAt number undos letters weight)) ⟨hx, hb, hml, hown, hts⟩ hN hK hP hD hS hA (c_X9_isLetter l D kc N a0 a1 a2 a3 a4 a5 a6 a7 a8 a9 a10 a11 a12 a13 a14 a15 a16 a17 a18 a19 a20 a21 a22 a23 a24 a25 a26 a27 a28 0 loftSize startWind seed draftLoft draftStart draftSeed length textSize start next_ token value error errorAt number undos letters x1 r_1 hc) (cwV 1 hts gX9_letterWeight_X9_isLetter rfl rfl rfl (by decide +kernel) ⟨Nat.le_of_ble_eq_true rfl, Nat.le_of_ble_eq_true rfl⟩) [0, 1] [2] [1, 2, 0] (by exact ⟨rfl, rfl, by decide, rfl⟩) 0 9 rfl rfl rfl rfl hl.1 rfl (Nat.le_of_ble_eq_true rfl) dX9_letterWeight_7 ⟨Nat.le_refl _, Nat.le_refl _⟩ (fun H locs hz hP hD hS => ?_)
  have hz_2 := hz
  refine lv_if_eq (tgt := 22) hx hb dX9_letterWeight_10 (by decide) (fun hc => ?_) (fun hc => ?_)
  · have hf := o_t hc hf
    refine lv_iconst (v := (-1)) hx hb dX9_letterWeight_22 (by decide) ?_
    cases hf
    exact kR _ _ _ _ hP hD hS dX9_letterWeight_23
  · have hf := o_f hc hf
    refine lv_aload_n hx hb dX9_letterWeight_13 rfl (lv_at hl 0 rfl) ?_
    refine va_get (D := D) (ci := 9) (v := .ref a18) (C := RX9) (T := TX9) (N := 45) hx hb hts in_X9 hown hK hP 0 rfl rfl 18 (by decide) lk_65 (fun _ h9 => h9) rfl dX9_letterWeight_14 ?_
    refine lv_iload_n hx hb dX9_letterWeight_17 rfl (lv_at hl 1 rfl) ?_
    obtain ⟨hi, hf⟩ := gIx_some hf
    refine va_iald hx hb hK hP 2 1 rfl rfl hi dX9_letterWeight_18 ?_
    refine lv_goto (tgt := 23) hx hb dX9_letterWeight_19 (by decide) ?_
    cases hf
    exact kR _ _ _ _ hP hD hS dX9_letterWeight_23
abbrev w_X9_turnsOf (kc : Nat → ClassId) (a0 a1 a2 a3 a4 a5 a6 a7 a8 a9 a10 a11 a12 a13 a14 a15 a16 a17 a18 a19 a20 a21 a22 a23 a24 a25 a26 a27 a28 : Nat) (thrown : Int32) (loftSize : Int32) (startWind : Int32) (seed : Int32) (draftLoft : Int32) (draftStart : Int32) (draftSeed : Int32) (length : Int32) (textSize : Int32) (start : Int32) (next_ : Int32) (token : Int32) (value : Int32) (error : Int32) (errorAt : Int32) (number : Int32) (undos : Int32) (turns : Nat → Int32) (turnFrom : Nat → Int32) (turnWeight : Nat → Int32) : va_W := [(a0, .inr (9, [.int thrown, .ref a1, .ref a2, .ref a3, .ref a4, .ref a5, .ref a6, .ref a7, .ref a8, .ref a9, .ref a10, .ref a11, .ref a12, .ref a13, .ref a14, .ref a15, .ref a16, .ref a17, .ref a18, .ref a19, .int loftSize, .int startWind, .int seed, .int draftLoft, .int draftStart, .int draftSeed, .ref a20, .int length, .int textSize, .int start, .int next_, .int token, .int value, .int error, .int errorAt, .int number, .ref a21, .ref a22, .ref a23, .ref a24, .ref a25, .int undos, .ref a26, .ref a27, .ref a28])), (a10, .inl (kc 1, 2, .inl turns)), (a11, .inl (kc 1, 60, .inl turnFrom)), (a13, .inl (kc 1, 60, .inl turnWeight))]
set_option maxHeartbeats 4000000 in
set_option maxRecDepth 100000 in
theorem c_X9_turnsOf (l : Launch) (D : va_G) (kc : Nat → ClassId) (N : Nat) (a0 a1 a2 a3 a4 a5 a6 a7 a8 a9 a10 a11 a12 a13 a14 a15 a16 a17 a18 a19 a20 a21 a22 a23 a24 a25 a26 a27 a28 : Nat) (thrown : Int32) (loftSize : Int32) (startWind : Int32) (seed : Int32) (draftLoft : Int32) (draftStart : Int32) (draftSeed : Int32) (length : Int32) (textSize : Int32) (start : Int32) (next_ : Int32) (token : Int32) (value : Int32) (error : Int32) (errorAt : Int32) (number : Int32) (undos : Int32) (turns : Nat → Int32) (turnFrom : Nat → Int32) (turnWeight : Nat → Int32) (x1 : Int32) (r_ : Int32) (hf : f_X9_turnsOf N turns turnFrom turnWeight x1 = some r_) : MI l yX9_turnsOf wsX9_turnsOf ({ frames := 0, cells := 0, slots := 0, locals := 0 }) D kc [.ref a0, .int x1] (w_X9_turnsOf kc a0 a1 a2 a3 a4 a5 a6 a7 a8 a9 a10 a11 a12 a13 a14 a15 a16 a17 a18 a19 a20 a21 a22 a23 a24 a25 a26 a27 a28 thrown loftSize startWind seed draftLoft draftStart draftSeed length textSize start next_ token value error errorAt number undos turns turnFrom turnWeight) (w_X9_turnsOf kc a0 a1 a2 a3 a4 a5 a6 a7 a8 a9 a10 a11 a12 a13 a14 a15 a16 a17 a18 a19 a20 a21 a22 a23 a24 a25 a26 a27 a28 thrown loftSize startWind seed draftLoft draftStart draftSeed length textSize start next_ token value error errorAt number undos turns turnFrom turnWeight) r_ := by
  refine gM_I (cc := cX9_turnsOf) (maxL := 4) (by decide) rfl (Nat.le_of_ble_eq_true rfl) ?_
  intro p e s m below meth c A ls Q hx hb hml hown hts hN hK hP hD hA hl kR
  have hS : va_S A s.heap s.heap [] := va_S.rf
  have hl : lv_has ls 4 [(0, .ref a0), (1, .int x1)] := hl
  have in_X9 : ∀ w ∈ u_ws RX9 TX9 45, w ∈ wsX9_turnsOf := by decide +kernel
  have lk_41 := hts (.fieldLink RX9 41 "BalloonMailModel" "turns" "[I") (by decide +kernel)
  have lk_44 := hts (.fieldLink RX9 44 "BalloonMailModel" "turnFrom" "[I") (by decide +kernel)
  have lk_50 := hts (.fieldLink RX9 50 "BalloonMailModel" "turnWeight" "[I") (by decide +kernel)
  unfold f_X9_turnsOf at hf
  refine lv_iconst (v := 0) hx hb dX9_turnsOf_0 (by decide) ?_
  refine lv_istore_n (lv' := [(2, .int 0), (0, .ref a0), (1, .int x1)]) hx hb dX9_turnsOf_1 rfl hl (by decide) rfl (fun ls hl => ?_)
  refine lv_iconst (v := 0) hx hb dX9_turnsOf_2 (by decide) ?_
  refine lv_istore_n (lv' := [(3, .int 0), (2, .int 0), (0, .ref a0), (1, .int x1)]) hx hb dX9_turnsOf_3 rfl hl (by decide) rfl (fun ls hl => ?_)
  have L4 : ∀ (n : Nat) (y3_4 : Int32) (y2_4 : Int32) (y3_4o : Int32) (y2_4o : Int32), f_X9_turnsOf_4 N turns turnFrom turnWeight x1 n y3_4 y2_4 = some (y3_4o, y2_4o) → (∀ (H : Heap) (locs : List Loc) (ls : Array Slot), va_P D vwCl (w_X9_turnsOf kc a0 a1 a2 a3 a4 a5 a6 a7 a8 a9 a10 a11 a12 a13 a14 a15 a16 a17 a18 a19 a20 a21 a22 a23 a24 a25 a26 a27 a28 thrown loftSize startWind seed draftLoft draftStart draftSeed length textSize start next_ token value error errorAt number undos turns turnFrom turnWeight) H → va_D A (w_X9_turnsOf kc a0 a1 a2 a3 a4 a5 a6 a7 a8 a9 a10 a11 a12 a13 a14 a15 a16 a17 a18 a19 a20 a21 a22 a23 a24 a25 a26 a27 a28 thrown loftSize startWind seed draftLoft draftStart draftSeed length textSize start next_ token value error errorAt number undos turns turnFrom turnWeight) → va_S A s.heap H locs → lv_has ls 4 [(0, .ref a0), (1, .int x1), (2, .int y2_4o), (3, .int y3_4o)] → W p l e ({ frames := 0, cells := 0, slots := 0, locals := 0 }) s m (([.ref a0, .int x1] : List Value).toArray) below meth c H locs 0 0 Q (F0 m 43 ls [])) → ∀ (H : Heap) (locs : List Loc) (ls : Array Slot), va_P D vwCl (w_X9_turnsOf kc a0 a1 a2 a3 a4 a5 a6 a7 a8 a9 a10 a11 a12 a13 a14 a15 a16 a17 a18 a19 a20 a21 a22 a23 a24 a25 a26 a27 a28 thrown loftSize startWind seed draftLoft draftStart draftSeed length textSize start next_ token value error errorAt number undos turns turnFrom turnWeight) H → va_D A (w_X9_turnsOf kc a0 a1 a2 a3 a4 a5 a6 a7 a8 a9 a10 a11 a12 a13 a14 a15 a16 a17 a18 a19 a20 a21 a22 a23 a24 a25 a26 a27 a28 thrown loftSize startWind seed draftLoft draftStart draftSeed length textSize start next_ token value error errorAt number undos turns turnFrom turnWeight) → va_S A s.heap H locs → lv_has ls 4 [(0, .ref a0), (1, .int x1), (2, .int y2_4), (3, .int y3_4)] → W p l e ({ frames := 0, cells := 0, slots := 0, locals := 0 }) s m (([.ref a0, .int x1] : List Value).toArray) below meth c H locs 0 0 Q (F0 m 4 ls []) := by
    intro n
    induction n with
    | zero => intro _ _ _ _ hf; rw [f_X9_turnsOf_4.eq_1] at hf; cases hf
    | succ n ih =>
      intro y3_4 y2_4 y3_4o y2_4o hf hk H locs ls hP hD hS hl
      rw [f_X9_turnsOf_4.eq_2] at hf
      refine lv_iload_n hx hb dX9_turnsOf_4 rfl (lv_at hl 3 rfl) ?_
      refine lv_aload_n hx hb dX9_turnsOf_5 rfl (lv_at hl 0 rfl) ?_
      refine va_get (D := D) (ci := 9) (v := .ref a10) (C := RX9) (T := TX9) (N := 45) hx hb hts in_X9 hown hK hP 0 rfl rfl 10 (by decide) lk_41 (fun _ h9 => h9) rfl dX9_turnsOf_6 ?_
      refine lv_iconst (v := 0) hx hb dX9_turnsOf_9 (by decide) ?_
      obtain ⟨hi, hf⟩ := gIx_some hf
      refine va_iald hx hb hK hP 1 1 rfl rfl hi dX9_turnsOf_10 ?_
      refine lv_icmp_ge (tgt := 43) hx hb dX9_turnsOf_11 (by decide) (fun hc => ?_) (fun hc => ?_)
      · have hf := o_t hc hf
        cases hf
        exact hk _ _ _ hP hD hS (lv_sub hl [0, 1, 2, 3] rfl)
      · have hf := o_f hc hf
        refine lv_iload_n hx hb dX9_turnsOf_14 rfl (lv_at hl 2 rfl) ?_
        refine lv_aload_n hx hb dX9_turnsOf_15 rfl (lv_at hl 0 rfl) ?_
        refine va_get (D := D) (ci := 9) (v := .ref a11) (C := RX9) (T := TX9) (N := 45) hx hb hts in_X9 hown hK hP 0 rfl rfl 11 (by decide) lk_44 (fun _ h9 => h9) rfl dX9_turnsOf_16 ?_
        refine lv_iload_n hx hb dX9_turnsOf_19 rfl (lv_at hl 3 rfl) ?_
        obtain ⟨hi, hf⟩ := gIx_some hf
        refine va_iald hx hb hK hP 2 1 rfl rfl hi dX9_turnsOf_20 ?_
        refine lv_iload_n hx hb dX9_turnsOf_21 rfl (lv_at hl 1 rfl) ?_
        refine lv_icmp_ne (tgt := 34) hx hb dX9_turnsOf_22 (by decide) (fun hc => ?_) (fun hc => ?_)
        · have hf := o_f hc hf
          refine lv_iconst (v := 0) hx hb dX9_turnsOf_34 (by decide) ?_
          refine lv_iadd hx hb dX9_turnsOf_35 ?_
          refine lv_istore_n (lv' := [(2, .int (y2_4 + 0)), (0, .ref a0), (1, .int x1), (3, .int y3_4)]) hx hb dX9_turnsOf_36 rfl hl (by decide) rfl (fun ls hl => ?_)
          refine lv_iinc (v := (y3_4 + 1)) (lv' := [(3, .int (y3_4 + 1)), (2, .int (y2_4 + 0)), (0, .ref a0), (1, .int x1)]) hx hb dX9_turnsOf_37 hl (k := 3) rfl (by rfl) (by decide) rfl (fun ls hl => ?_)
          refine lv_goto (tgt := 4) hx hb dX9_turnsOf_40 (by decide) ?_
          exact ih _ _ _ _ hf hk _ _ _ hP hD hS (lv_sub hl [2, 3, 1, 0] rfl)
        · have hf := o_t hc hf
          refine lv_aload_n hx hb dX9_turnsOf_25 rfl (lv_at hl 0 rfl) ?_
          refine va_get (D := D) (ci := 9) (v := .ref a13) (C := RX9) (T := TX9) (N := 45) hx hb hts in_X9 hown hK hP 0 rfl rfl 13 (by decide) lk_50 (fun _ h9 => h9) rfl dX9_turnsOf_26 ?_
          refine lv_iload_n hx hb dX9_turnsOf_29 rfl (lv_at hl 3 rfl) ?_
          obtain ⟨hi, hf⟩ := gIx_some hf
          refine va_iald hx hb hK hP 3 1 rfl rfl hi dX9_turnsOf_30 ?_
          refine lv_goto (tgt := 35) hx hb dX9_turnsOf_31 (by decide) ?_
          refine lv_iadd hx hb dX9_turnsOf_35 ?_
          refine lv_istore_n (lv' := [(2, .int (y2_4 + (turnWeight (y3_4 : Int32).toNatClampNeg))), (0, .ref a0), (1, .int x1), (3, .int y3_4)]) hx hb dX9_turnsOf_36 rfl hl (by decide) rfl (fun ls hl => ?_)
          refine lv_iinc (v := (y3_4 + 1)) (lv' := [(3, .int (y3_4 + 1)), (2, .int (y2_4 + (turnWeight (y3_4 : Int32).toNatClampNeg))), (0, .ref a0), (1, .int x1)]) hx hb dX9_turnsOf_37 hl (k := 3) rfl (by rfl) (by decide) rfl (fun ls hl => ?_)
          refine lv_goto (tgt := 4) hx hb dX9_turnsOf_40 (by decide) ?_
          exact ih _ _ _ _ hf hk _ _ _ hP hD hS (lv_sub hl [2, 3, 1, 0] rfl)
  obtain ⟨y3_4o, y2_4o, hc, hf⟩ := ob2_some hf
  refine L4 N _ _ _ _ hc (fun H locs ls hP hD hS hl => ?_) _ _ _ hP hD hS (lv_sub hl [2, 3, 1, 0] rfl)
  refine lv_iload_n hx hb dX9_turnsOf_43 rfl (lv_at hl 2 rfl) ?_
  cases hf
  exact kR _ _ _ _ hP hD hS dX9_turnsOf_44
abbrev w_X9_goesOn (kc : Nat → ClassId) (a0 a1 a2 a3 a4 a5 a6 a7 a8 a9 a10 a11 a12 a13 a14 a15 a16 a17 a18 a19 a20 a21 a22 a23 a24 a25 a26 a27 a28 : Nat) (thrown : Int32) (loftSize : Int32) (startWind : Int32) (seed : Int32) (draftLoft : Int32) (draftStart : Int32) (draftSeed : Int32) (length : Int32) (textSize : Int32) (start : Int32) (next_ : Int32) (token : Int32) (value : Int32) (error : Int32) (errorAt : Int32) (number : Int32) (undos : Int32) (now : Nat → Int32) (chance : Nat → Int64) (turns : Nat → Int32) (turnFrom : Nat → Int32) (turnWeight : Nat → Int32) (chanceNext : Nat → Int64) (turnTo : Nat → Int32) : va_W := [(a0, .inr (9, [.int thrown, .ref a1, .ref a2, .ref a3, .ref a4, .ref a5, .ref a6, .ref a7, .ref a8, .ref a9, .ref a10, .ref a11, .ref a12, .ref a13, .ref a14, .ref a15, .ref a16, .ref a17, .ref a18, .ref a19, .int loftSize, .int startWind, .int seed, .int draftLoft, .int draftStart, .int draftSeed, .ref a20, .int length, .int textSize, .int start, .int next_, .int token, .int value, .int error, .int errorAt, .int number, .ref a21, .ref a22, .ref a23, .ref a24, .ref a25, .int undos, .ref a26, .ref a27, .ref a28])), (a1, .inl (kc 1, 213, .inl now)), (a21, .inl (kc 2, 6, .inr (.inl chance))), (a10, .inl (kc 1, 2, .inl turns)), (a11, .inl (kc 1, 60, .inl turnFrom)), (a13, .inl (kc 1, 60, .inl turnWeight)), (a22, .inl (kc 2, 6, .inr (.inl chanceNext))), (a12, .inl (kc 1, 60, .inl turnTo))]
set_option maxHeartbeats 4000000 in
set_option maxRecDepth 100000 in
theorem c_X9_goesOn (l : Launch) (D : va_G) (kc : Nat → ClassId) (N : Nat) (a0 a1 a2 a3 a4 a5 a6 a7 a8 a9 a10 a11 a12 a13 a14 a15 a16 a17 a18 a19 a20 a21 a22 a23 a24 a25 a26 a27 a28 : Nat) (thrown : Int32) (loftSize : Int32) (startWind : Int32) (seed : Int32) (draftLoft : Int32) (draftStart : Int32) (draftSeed : Int32) (length : Int32) (textSize : Int32) (start : Int32) (next_ : Int32) (token : Int32) (value : Int32) (error : Int32) (errorAt : Int32) (number : Int32) (undos : Int32) (now : Nat → Int32) (chance : Nat → Int64) (turns : Nat → Int32) (turnFrom : Nat → Int32) (turnWeight : Nat → Int32) (chanceNext : Nat → Int64) (turnTo : Nat → Int32) (x1 : Int32) (x2 : Int32) (chance' : Nat → Int64) (chanceNext' : Nat → Int64) (hf : f_X9_goesOn N now chance turns turnFrom turnWeight chanceNext turnTo x1 x2 = some (chance', chanceNext')) : MV l yX9_goesOn wsX9_goesOn ({ frames := 1, cells := 0, slots := 0, locals := 23 }) D kc [.ref a0, .int x1, .int x2] (w_X9_goesOn kc a0 a1 a2 a3 a4 a5 a6 a7 a8 a9 a10 a11 a12 a13 a14 a15 a16 a17 a18 a19 a20 a21 a22 a23 a24 a25 a26 a27 a28 thrown loftSize startWind seed draftLoft draftStart draftSeed length textSize start next_ token value error errorAt number undos now chance turns turnFrom turnWeight chanceNext turnTo) (w_X9_goesOn kc a0 a1 a2 a3 a4 a5 a6 a7 a8 a9 a10 a11 a12 a13 a14 a15 a16 a17 a18 a19 a20 a21 a22 a23 a24 a25 a26 a27 a28 thrown loftSize startWind seed draftLoft draftStart draftSeed length textSize start next_ token value error errorAt number undos now chance' turns turnFrom turnWeight chanceNext' turnTo) := by
  refine gM_V (cc := cX9_goesOn) (maxL := 5) (by decide) rfl (Nat.le_of_ble_eq_true rfl) ?_
  intro p e s m below meth c A ls Q hx hb hml hown hts hN hK hP hD hA hl kR
  have hS : va_S A s.heap s.heap [] := va_S.rf
  have hl : lv_has ls 5 [(0, .ref a0), (1, .int x1), (2, .int x2)] := hl
  have in_X9 : ∀ w ∈ u_ws RX9 TX9 45, w ∈ wsX9_goesOn := by decide +kernel
  have lk_78 := hts (.fieldLink RX9 78 "BalloonMailModel" "chance" "[J") (by decide +kernel)
  have lk_13 := hts (.fieldLink RX9 13 "BalloonMailModel" "now" "[I") (by decide +kernel)
  have lk_82 := hts (.fieldLink RX9 82 "BalloonMailModel" "chanceNext" "[J") (by decide +kernel)
  have lk_41 := hts (.fieldLink RX9 41 "BalloonMailModel" "turns" "[I") (by decide +kernel)
  have lk_47 := hts (.fieldLink RX9 47 "BalloonMailModel" "turnTo" "[I") (by decide +kernel)
  have lk_44 := hts (.fieldLink RX9 44 "BalloonMailModel" "turnFrom" "[I") (by decide +kernel)
  have lk_50 := hts (.fieldLink RX9 50 "BalloonMailModel" "turnWeight" "[I") (by decide +kernel)
  unfold f_X9_goesOn at hf
  refine lv_iconst (v := 0) hx hb dX9_goesOn_0 (by decide) ?_
  refine lv_istore_n (lv' := [(3, .int 0), (0, .ref a0), (1, .int x1), (2, .int x2)]) hx hb dX9_goesOn_1 rfl hl (by decide) rfl (fun ls hl => ?_)
  have L2 : ∀ (n : Nat) (y3_2 : Int32) (chance_2 : Nat → Int64) (y3_2o : Int32) (chance_2o : Nat → Int64), f_X9_goesOn_2 N now x2 n y3_2 chance_2 = some (y3_2o, chance_2o) → (∀ (H : Heap) (locs : List Loc) (ls : Array Slot), va_P D vwCl (w_X9_goesOn kc a0 a1 a2 a3 a4 a5 a6 a7 a8 a9 a10 a11 a12 a13 a14 a15 a16 a17 a18 a19 a20 a21 a22 a23 a24 a25 a26 a27 a28 thrown loftSize startWind seed draftLoft draftStart draftSeed length textSize start next_ token value error errorAt number undos now chance_2o turns turnFrom turnWeight chanceNext turnTo) H → va_D A (w_X9_goesOn kc a0 a1 a2 a3 a4 a5 a6 a7 a8 a9 a10 a11 a12 a13 a14 a15 a16 a17 a18 a19 a20 a21 a22 a23 a24 a25 a26 a27 a28 thrown loftSize startWind seed draftLoft draftStart draftSeed length textSize start next_ token value error errorAt number undos now chance_2o turns turnFrom turnWeight chanceNext turnTo) → va_S A s.heap H locs → lv_has ls 5 [(0, .ref a0), (1, .int x1), (2, .int x2), (3, .int y3_2o)] → W p l e ({ frames := 1, cells := 0, slots := 0, locals := 23 }) s m (([.ref a0, .int x1, .int x2] : List Value).toArray) below meth c H locs 0 0 Q (F0 m 40 ls [])) → ∀ (H : Heap) (locs : List Loc) (ls : Array Slot), va_P D vwCl (w_X9_goesOn kc a0 a1 a2 a3 a4 a5 a6 a7 a8 a9 a10 a11 a12 a13 a14 a15 a16 a17 a18 a19 a20 a21 a22 a23 a24 a25 a26 a27 a28 thrown loftSize startWind seed draftLoft draftStart draftSeed length textSize start next_ token value error errorAt number undos now chance_2 turns turnFrom turnWeight chanceNext turnTo) H → va_D A (w_X9_goesOn kc a0 a1 a2 a3 a4 a5 a6 a7 a8 a9 a10 a11 a12 a13 a14 a15 a16 a17 a18 a19 a20 a21 a22 a23 a24 a25 a26 a27 a28 thrown loftSize startWind seed draftLoft draftStart draftSeed length textSize start next_ token value error errorAt number undos now chance_2 turns turnFrom turnWeight chanceNext turnTo) → va_S A s.heap H locs → lv_has ls 5 [(0, .ref a0), (1, .int x1), (2, .int x2), (3, .int y3_2)] → W p l e ({ frames := 1, cells := 0, slots := 0, locals := 23 }) s m (([.ref a0, .int x1, .int x2] : List Value).toArray) below meth c H locs 0 0 Q (F0 m 2 ls []) := by
    intro n
    induction n with
    | zero => intro _ _ _ _ hf; rw [f_X9_goesOn_2.eq_1] at hf; cases hf
    | succ n ih =>
      intro y3_2 chance_2 y3_2o chance_2o hf hk H locs ls hP hD hS hl
      rw [f_X9_goesOn_2.eq_2] at hf
      refine lv_iload_n hx hb dX9_goesOn_2 rfl (lv_at hl 3 rfl) ?_
      refine lv_bipush (v := 6) hx hb dX9_goesOn_3 (by decide) ?_
      refine lv_icmp_ge (tgt := 40) hx hb dX9_goesOn_5 (by decide) (fun hc => ?_) (fun hc => ?_)
      · have hf := o_t hc hf
        cases hf
        exact hk _ _ _ hP hD hS (lv_sub hl [0, 1, 2, 3] rfl)
      · have hf := o_f hc hf
        refine lv_aload_n hx hb dX9_goesOn_8 rfl (lv_at hl 0 rfl) ?_
        refine va_get (D := D) (ci := 9) (v := .ref a21) (C := RX9) (T := TX9) (N := 45) hx hb hts in_X9 hown hK hP 0 rfl rfl 36 (by decide) lk_78 (fun _ h9 => h9) rfl dX9_goesOn_9 ?_
        refine lv_iload_n hx hb dX9_goesOn_12 rfl (lv_at hl 3 rfl) ?_
        refine lv_iload_n hx hb dX9_goesOn_13 rfl (lv_at hl 3 rfl) ?_
        refine lv_aload_n hx hb dX9_goesOn_14 rfl (lv_at hl 0 rfl) ?_
        refine va_get (D := D) (ci := 9) (v := .ref a1) (C := RX9) (T := TX9) (N := 45) hx hb hts in_X9 hown hK hP 0 rfl rfl 1 (by decide) lk_13 (fun _ h9 => h9) rfl dX9_goesOn_15 ?_
        refine lv_iconst (v := 1) hx hb dX9_goesOn_18 (by decide) ?_
        obtain ⟨hi, hf⟩ := gIx_some hf
        refine va_iald hx hb hK hP 1 1 rfl rfl hi dX9_goesOn_19 ?_
        refine lv_icmp_ne (tgt := 32) hx hb dX9_goesOn_20 (by decide) (fun hc => ?_) (fun hc => ?_)
        · have hf := o_f hc hf
          refine lv_lconst (v := 0) hx hb dX9_goesOn_32 (by decide) ?_
          obtain ⟨hi, hf⟩ := gIx_some hf
          refine va_last hx hb hK hP hD hS 2 2 rfl rfl hi dX9_goesOn_33 (fun H locs hP hD hS => ?_)
          have hP : va_P D vwCl (w_X9_goesOn kc a0 a1 a2 a3 a4 a5 a6 a7 a8 a9 a10 a11 a12 a13 a14 a15 a16 a17 a18 a19 a20 a21 a22 a23 a24 a25 a26 a27 a28 thrown loftSize startWind seed draftLoft draftStart draftSeed length textSize start next_ token value error errorAt number undos now (vp_updL chance_2 (y3_2 : Int32).toNatClampNeg 0) turns turnFrom turnWeight chanceNext turnTo) H := hP
          have hD : va_D A (w_X9_goesOn kc a0 a1 a2 a3 a4 a5 a6 a7 a8 a9 a10 a11 a12 a13 a14 a15 a16 a17 a18 a19 a20 a21 a22 a23 a24 a25 a26 a27 a28 thrown loftSize startWind seed draftLoft draftStart draftSeed length textSize start next_ token value error errorAt number undos now (vp_updL chance_2 (y3_2 : Int32).toNatClampNeg 0) turns turnFrom turnWeight chanceNext turnTo) := hD
          refine lv_iinc (v := (y3_2 + 1)) (lv' := [(3, .int (y3_2 + 1)), (0, .ref a0), (1, .int x1), (2, .int x2)]) hx hb dX9_goesOn_34 hl (k := 3) rfl (by rfl) (by decide) rfl (fun ls hl => ?_)
          refine lv_goto (tgt := 2) hx hb dX9_goesOn_37 (by decide) ?_
          exact ih _ _ _ _ hf hk _ _ _ hP hD hS (lv_sub hl [1, 2, 3, 0] rfl)
        · have hf := o_t hc hf
          refine lv_iload_n hx hb dX9_goesOn_23 rfl (lv_at hl 3 rfl) ?_
          refine lv_iload_n hx hb dX9_goesOn_24 rfl (lv_at hl 2 rfl) ?_
          refine lv_icmp_eq (tgt := 32) hx hb dX9_goesOn_25 (by decide) (fun hc => ?_) (fun hc => ?_)
          · have hf := o_t hc hf
            refine lv_lconst (v := 0) hx hb dX9_goesOn_32 (by decide) ?_
            obtain ⟨hi, hf⟩ := gIx_some hf
            refine va_last hx hb hK hP hD hS 2 2 rfl rfl hi dX9_goesOn_33 (fun H locs hP hD hS => ?_)
            have hP : va_P D vwCl (w_X9_goesOn kc a0 a1 a2 a3 a4 a5 a6 a7 a8 a9 a10 a11 a12 a13 a14 a15 a16 a17 a18 a19 a20 a21 a22 a23 a24 a25 a26 a27 a28 thrown loftSize startWind seed draftLoft draftStart draftSeed length textSize start next_ token value error errorAt number undos now (vp_updL chance_2 (y3_2 : Int32).toNatClampNeg 0) turns turnFrom turnWeight chanceNext turnTo) H := hP
            have hD : va_D A (w_X9_goesOn kc a0 a1 a2 a3 a4 a5 a6 a7 a8 a9 a10 a11 a12 a13 a14 a15 a16 a17 a18 a19 a20 a21 a22 a23 a24 a25 a26 a27 a28 thrown loftSize startWind seed draftLoft draftStart draftSeed length textSize start next_ token value error errorAt number undos now (vp_updL chance_2 (y3_2 : Int32).toNatClampNeg 0) turns turnFrom turnWeight chanceNext turnTo) := hD
            refine lv_iinc (v := (y3_2 + 1)) (lv' := [(3, .int (y3_2 + 1)), (0, .ref a0), (1, .int x1), (2, .int x2)]) hx hb dX9_goesOn_34 hl (k := 3) rfl (by rfl) (by decide) rfl (fun ls hl => ?_)
            refine lv_goto (tgt := 2) hx hb dX9_goesOn_37 (by decide) ?_
            exact ih _ _ _ _ hf hk _ _ _ hP hD hS (lv_sub hl [1, 2, 3, 0] rfl)
          · have hf := o_f hc hf
            refine lv_lconst (v := 1) hx hb dX9_goesOn_28 (by decide) ?_
            refine lv_goto (tgt := 33) hx hb dX9_goesOn_29 (by decide) ?_
            obtain ⟨hi, hf⟩ := gIx_some hf
            refine va_last hx hb hK hP hD hS 2 2 rfl rfl hi dX9_goesOn_33 (fun H locs hP hD hS => ?_)
            have hP : va_P D vwCl (w_X9_goesOn kc a0 a1 a2 a3 a4 a5 a6 a7 a8 a9 a10 a11 a12 a13 a14 a15 a16 a17 a18 a19 a20 a21 a22 a23 a24 a25 a26 a27 a28 thrown loftSize startWind seed draftLoft draftStart draftSeed length textSize start next_ token value error errorAt number undos now (vp_updL chance_2 (y3_2 : Int32).toNatClampNeg 1) turns turnFrom turnWeight chanceNext turnTo) H := hP
            have hD : va_D A (w_X9_goesOn kc a0 a1 a2 a3 a4 a5 a6 a7 a8 a9 a10 a11 a12 a13 a14 a15 a16 a17 a18 a19 a20 a21 a22 a23 a24 a25 a26 a27 a28 thrown loftSize startWind seed draftLoft draftStart draftSeed length textSize start next_ token value error errorAt number undos now (vp_updL chance_2 (y3_2 : Int32).toNatClampNeg 1) turns turnFrom turnWeight chanceNext turnTo) := hD
            refine lv_iinc (v := (y3_2 + 1)) (lv' := [(3, .int (y3_2 + 1)), (0, .ref a0), (1, .int x1), (2, .int x2)]) hx hb dX9_goesOn_34 hl (k := 3) rfl (by rfl) (by decide) rfl (fun ls hl => ?_)
            refine lv_goto (tgt := 2) hx hb dX9_goesOn_37 (by decide) ?_
            exact ih _ _ _ _ hf hk _ _ _ hP hD hS (lv_sub hl [1, 2, 3, 0] rfl)
  obtain ⟨y3_2o, chance_2o, hc, hf⟩ := ob2_some hf
  refine L2 N _ _ _ _ hc (fun H locs ls hP hD hS hl => ?_) _ _ _ hP hD hS (lv_sub hl [1, 2, 3, 0] rfl)
  refine lv_iconst (v := 0) hx hb dX9_goesOn_40 (by decide) ?_
  refine lv_istore_n (lv' := [(3, .int 0), (0, .ref a0), (1, .int x1), (2, .int x2)]) hx hb dX9_goesOn_41 rfl hl (by decide) rfl (fun ls hl => ?_)
  have L42 : ∀ (n : Nat) (y3_42 : Int32) (chance_42 : Nat → Int64) (chanceNext_42 : Nat → Int64) (y3_42o : Int32) (chance_42o : Nat → Int64) (chanceNext_42o : Nat → Int64), f_X9_goesOn_42 N turns turnFrom turnWeight turnTo x1 x2 n y3_42 chance_42 chanceNext_42 = some (y3_42o, chance_42o, chanceNext_42o) → (∀ (H : Heap) (locs : List Loc) (ls : Array Slot), va_P D vwCl (w_X9_goesOn kc a0 a1 a2 a3 a4 a5 a6 a7 a8 a9 a10 a11 a12 a13 a14 a15 a16 a17 a18 a19 a20 a21 a22 a23 a24 a25 a26 a27 a28 thrown loftSize startWind seed draftLoft draftStart draftSeed length textSize start next_ token value error errorAt number undos now chance_42o turns turnFrom turnWeight chanceNext_42o turnTo) H → va_D A (w_X9_goesOn kc a0 a1 a2 a3 a4 a5 a6 a7 a8 a9 a10 a11 a12 a13 a14 a15 a16 a17 a18 a19 a20 a21 a22 a23 a24 a25 a26 a27 a28 thrown loftSize startWind seed draftLoft draftStart draftSeed length textSize start next_ token value error errorAt number undos now chance_42o turns turnFrom turnWeight chanceNext_42o turnTo) → va_S A s.heap H locs → lv_has ls 5 [(0, .ref a0), (1, .int x1), (2, .int x2), (3, .int y3_42o)] → W p l e ({ frames := 1, cells := 0, slots := 0, locals := 23 }) s m (([.ref a0, .int x1, .int x2] : List Value).toArray) below meth c H locs 0 0 Q (F0 m 190 ls [])) → ∀ (H : Heap) (locs : List Loc) (ls : Array Slot), va_P D vwCl (w_X9_goesOn kc a0 a1 a2 a3 a4 a5 a6 a7 a8 a9 a10 a11 a12 a13 a14 a15 a16 a17 a18 a19 a20 a21 a22 a23 a24 a25 a26 a27 a28 thrown loftSize startWind seed draftLoft draftStart draftSeed length textSize start next_ token value error errorAt number undos now chance_42 turns turnFrom turnWeight chanceNext_42 turnTo) H → va_D A (w_X9_goesOn kc a0 a1 a2 a3 a4 a5 a6 a7 a8 a9 a10 a11 a12 a13 a14 a15 a16 a17 a18 a19 a20 a21 a22 a23 a24 a25 a26 a27 a28 thrown loftSize startWind seed draftLoft draftStart draftSeed length textSize start next_ token value error errorAt number undos now chance_42 turns turnFrom turnWeight chanceNext_42 turnTo) → va_S A s.heap H locs → lv_has ls 5 [(0, .ref a0), (1, .int x1), (2, .int x2), (3, .int y3_42)] → W p l e ({ frames := 1, cells := 0, slots := 0, locals := 23 }) s m (([.ref a0, .int x1, .int x2] : List Value).toArray) below meth c H locs 0 0 Q (F0 m 42 ls []) := by
    intro n
    induction n with
    | zero => intro _ _ _ _ _ _ hf; rw [f_X9_goesOn_42.eq_1] at hf; cases hf
    | succ n ih =>
      intro y3_42 chance_42 chanceNext_42 y3_42o chance_42o chanceNext_42o hf hk H locs ls hP hD hS hl
      rw [f_X9_goesOn_42.eq_2] at hf
      refine lv_iload_n hx hb dX9_goesOn_42 rfl (lv_at hl 3 rfl) ?_
      refine lv_iload_n hx hb dX9_goesOn_43 rfl (lv_at hl 1 rfl) ?_
      refine lv_icmp_ge (tgt := 190) hx hb dX9_goesOn_44 (by decide) (fun hc => ?_) (fun hc => ?_)
      · have hf := o_t hc hf
        cases hf
        exact hk _ _ _ hP hD hS (lv_sub hl [0, 1, 2, 3] rfl)
      · have hf := o_f hc hf
        refine lv_iconst (v := 0) hx hb dX9_goesOn_47 (by decide) ?_
        refine lv_istore (lv' := [(4, .int 0), (0, .ref a0), (1, .int x1), (2, .int x2), (3, .int y3_42)]) hx hb dX9_goesOn_48 hl (by decide) rfl (fun ls hl => ?_)
        have L50 : ∀ (n : Nat) (y4_50 : Int32) (chanceNext_50 : Nat → Int64) (y4_50o : Int32) (chanceNext_50o : Nat → Int64), f_X9_goesOn_50 N turns turnFrom turnWeight chance_42 n y4_50 chanceNext_50 = some (y4_50o, chanceNext_50o) → (∀ (H : Heap) (locs : List Loc) (ls : Array Slot), va_P D vwCl (w_X9_goesOn kc a0 a1 a2 a3 a4 a5 a6 a7 a8 a9 a10 a11 a12 a13 a14 a15 a16 a17 a18 a19 a20 a21 a22 a23 a24 a25 a26 a27 a28 thrown loftSize startWind seed draftLoft draftStart draftSeed length textSize start next_ token value error errorAt number undos now chance_42 turns turnFrom turnWeight chanceNext_50o turnTo) H → va_D A (w_X9_goesOn kc a0 a1 a2 a3 a4 a5 a6 a7 a8 a9 a10 a11 a12 a13 a14 a15 a16 a17 a18 a19 a20 a21 a22 a23 a24 a25 a26 a27 a28 thrown loftSize startWind seed draftLoft draftStart draftSeed length textSize start next_ token value error errorAt number undos now chance_42 turns turnFrom turnWeight chanceNext_50o turnTo) → va_S A s.heap H locs → lv_has ls 5 [(0, .ref a0), (1, .int x1), (2, .int x2), (3, .int y3_42), (4, .int y4_50o)] → W p l e ({ frames := 1, cells := 0, slots := 0, locals := 23 }) s m (([.ref a0, .int x1, .int x2] : List Value).toArray) below meth c H locs 0 0 Q (F0 m 88 ls [])) → ∀ (H : Heap) (locs : List Loc) (ls : Array Slot), va_P D vwCl (w_X9_goesOn kc a0 a1 a2 a3 a4 a5 a6 a7 a8 a9 a10 a11 a12 a13 a14 a15 a16 a17 a18 a19 a20 a21 a22 a23 a24 a25 a26 a27 a28 thrown loftSize startWind seed draftLoft draftStart draftSeed length textSize start next_ token value error errorAt number undos now chance_42 turns turnFrom turnWeight chanceNext_50 turnTo) H → va_D A (w_X9_goesOn kc a0 a1 a2 a3 a4 a5 a6 a7 a8 a9 a10 a11 a12 a13 a14 a15 a16 a17 a18 a19 a20 a21 a22 a23 a24 a25 a26 a27 a28 thrown loftSize startWind seed draftLoft draftStart draftSeed length textSize start next_ token value error errorAt number undos now chance_42 turns turnFrom turnWeight chanceNext_50 turnTo) → va_S A s.heap H locs → lv_has ls 5 [(0, .ref a0), (1, .int x1), (2, .int x2), (3, .int y3_42), (4, .int y4_50)] → W p l e ({ frames := 1, cells := 0, slots := 0, locals := 23 }) s m (([.ref a0, .int x1, .int x2] : List Value).toArray) below meth c H locs 0 0 Q (F0 m 50 ls []) := by
          intro n
          induction n with
          | zero => intro _ _ _ _ hf; rw [f_X9_goesOn_50.eq_1] at hf; cases hf
          | succ n ih =>
            intro y4_50 chanceNext_50 y4_50o chanceNext_50o hf hk H locs ls hP hD hS hl
            rw [f_X9_goesOn_50.eq_2] at hf
            refine lv_iload hx hb dX9_goesOn_50 (lv_at hl 4 rfl) ?_
            refine lv_bipush (v := 6) hx hb dX9_goesOn_52 (by decide) ?_
            refine lv_icmp_ge (tgt := 88) hx hb dX9_goesOn_54 (by decide) (fun hc => ?_) (fun hc => ?_)
            · have hf := o_t hc hf
              cases hf
              exact hk _ _ _ hP hD hS (lv_sub hl [0, 1, 2, 3, 4] rfl)
            · have hf := o_f hc hf
              refine lv_aload_n hx hb dX9_goesOn_57 rfl (lv_at hl 0 rfl) ?_
              refine va_get (D := D) (ci := 9) (v := .ref a22) (C := RX9) (T := TX9) (N := 45) hx hb hts in_X9 hown hK hP 0 rfl rfl 37 (by decide) lk_82 (fun _ h9 => h9) rfl dX9_goesOn_58 ?_
              refine lv_iload hx hb dX9_goesOn_61 (lv_at hl 4 rfl) ?_
              refine lv_aload_n hx hb dX9_goesOn_63 rfl (lv_at hl 0 rfl) ?_
              refine va_get (D := D) (ci := 9) (v := .ref a21) (C := RX9) (T := TX9) (N := 45) hx hb hts in_X9 hown hK hP 0 rfl rfl 36 (by decide) lk_78 (fun _ h9 => h9) rfl dX9_goesOn_64 ?_
              refine lv_iload hx hb dX9_goesOn_67 (lv_at hl 4 rfl) ?_
              obtain ⟨hi, hf⟩ := gIx_some hf
              refine va_lald hx hb hK hP 2 2 rfl rfl hi dX9_goesOn_69 ?_
              refine lv_bipush (v := 10) hx hb dX9_goesOn_70 (by decide) ?_
              refine lv_aload_n hx hb dX9_goesOn_72 rfl (lv_at hl 0 rfl) ?_
              refine lv_iload hx hb dX9_goesOn_73 (lv_at hl 4 rfl) ?_
              obtain ⟨r_1, hc, hf⟩ := ob1_some hf
              refine g_VI (As := [.int y4_50]) (rest := [.int 10, .long (chance_42 (y4_50 : Int32).toNatClampNeg), .int y4_50, .ref a22]) (ws' := (w_X9_goesOn kc a0 a1 a2 a3 a4 a5 a6 a7 a8 a9 a10 a11 a12 a13 a14 a15 a16 a17 a18 a19 a20 a21 a22 a23 a24 a25 a26 a27 a28 thrown loftSize startWind seed draftLoft draftStart draftSeed length textSize start next_ token value error errorAt number undos now chance_42 turns turnFrom turnWeight chanceNext_50 turnTo)) ⟨hx, hb, hml, hown, hts⟩ hN hK hP hD hS hA (c_X9_turnsOf l D kc N a0 a1 a2 a3 a4 a5 a6 a7 a8 a9 a10 a11 a12 a13 a14 a15 a16 a17 a18 a19 a20 a21 a22 a23 a24 a25 a26 a27 a28 thrown loftSize startWind seed draftLoft draftStart draftSeed length textSize start next_ token value error errorAt number undos turns turnFrom turnWeight y4_50 r_1 hc) (cwV 1 hts gX9_goesOn_X9_turnsOf rfl rfl rfl (by decide +kernel) ⟨Nat.le_of_ble_eq_true rfl, Nat.le_of_ble_eq_true rfl⟩) [0, 3, 4, 5] [1, 2, 6, 7] [4, 0, 1, 5, 6, 7, 2, 3] (by exact ⟨rfl, rfl, by decide, rfl⟩) 0 9 rfl rfl rfl rfl hl.1 rfl (Nat.le_of_ble_eq_true rfl) dX9_goesOn_75 ⟨Nat.le_refl _, Nat.le_refl _⟩ (fun H locs hP hD hS => ?_)
              refine lv_isub hx hb dX9_goesOn_78 ?_
              refine lv_i2l (v := ((10 - r_1) : Int32).toInt64) hx hb dX9_goesOn_79 rfl ?_
              refine lv_lmul hx hb dX9_goesOn_80 ?_
              obtain ⟨hi, hf⟩ := gIx_some hf
              refine va_last hx hb hK hP hD hS 6 2 rfl rfl hi dX9_goesOn_81 (fun H locs hP hD hS => ?_)
              have hP : va_P D vwCl (w_X9_goesOn kc a0 a1 a2 a3 a4 a5 a6 a7 a8 a9 a10 a11 a12 a13 a14 a15 a16 a17 a18 a19 a20 a21 a22 a23 a24 a25 a26 a27 a28 thrown loftSize startWind seed draftLoft draftStart draftSeed length textSize start next_ token value error errorAt number undos now chance_42 turns turnFrom turnWeight (vp_updL chanceNext_50 (y4_50 : Int32).toNatClampNeg ((chance_42 (y4_50 : Int32).toNatClampNeg) * (((10 - r_1) : Int32).toInt64))) turnTo) H := hP
              have hD : va_D A (w_X9_goesOn kc a0 a1 a2 a3 a4 a5 a6 a7 a8 a9 a10 a11 a12 a13 a14 a15 a16 a17 a18 a19 a20 a21 a22 a23 a24 a25 a26 a27 a28 thrown loftSize startWind seed draftLoft draftStart draftSeed length textSize start next_ token value error errorAt number undos now chance_42 turns turnFrom turnWeight (vp_updL chanceNext_50 (y4_50 : Int32).toNatClampNeg ((chance_42 (y4_50 : Int32).toNatClampNeg) * (((10 - r_1) : Int32).toInt64))) turnTo) := hD
              refine lv_iinc (v := (y4_50 + 1)) (lv' := [(4, .int (y4_50 + 1)), (0, .ref a0), (1, .int x1), (2, .int x2), (3, .int y3_42)]) hx hb dX9_goesOn_82 hl (k := 4) rfl (by rfl) (by decide) rfl (fun ls hl => ?_)
              refine lv_goto (tgt := 50) hx hb dX9_goesOn_85 (by decide) ?_
              exact ih _ _ _ _ hf hk _ _ _ hP hD hS (lv_sub hl [1, 2, 3, 4, 0] rfl)
        obtain ⟨y4_50o, chanceNext_50o, hc, hf⟩ := ob2_some hf
        refine L50 N _ _ _ _ hc (fun H locs ls hP hD hS hl => ?_) _ _ _ hP hD hS (lv_sub hl [1, 2, 3, 4, 0] rfl)
        refine lv_iconst (v := 0) hx hb dX9_goesOn_88 (by decide) ?_
        refine lv_istore (lv' := [(4, .int 0), (0, .ref a0), (1, .int x1), (2, .int x2), (3, .int y3_42)]) hx hb dX9_goesOn_89 hl (by decide) rfl (fun ls hl => ?_)
        have L91 : ∀ (n : Nat) (y4_91 : Int32) (chanceNext_91 : Nat → Int64) (y4_91o : Int32) (chanceNext_91o : Nat → Int64), f_X9_goesOn_91 N turns turnFrom turnWeight turnTo chance_42 n y4_91 chanceNext_91 = some (y4_91o, chanceNext_91o) → (∀ (H : Heap) (locs : List Loc) (ls : Array Slot), va_P D vwCl (w_X9_goesOn kc a0 a1 a2 a3 a4 a5 a6 a7 a8 a9 a10 a11 a12 a13 a14 a15 a16 a17 a18 a19 a20 a21 a22 a23 a24 a25 a26 a27 a28 thrown loftSize startWind seed draftLoft draftStart draftSeed length textSize start next_ token value error errorAt number undos now chance_42 turns turnFrom turnWeight chanceNext_91o turnTo) H → va_D A (w_X9_goesOn kc a0 a1 a2 a3 a4 a5 a6 a7 a8 a9 a10 a11 a12 a13 a14 a15 a16 a17 a18 a19 a20 a21 a22 a23 a24 a25 a26 a27 a28 thrown loftSize startWind seed draftLoft draftStart draftSeed length textSize start next_ token value error errorAt number undos now chance_42 turns turnFrom turnWeight chanceNext_91o turnTo) → va_S A s.heap H locs → lv_has ls 5 [(0, .ref a0), (1, .int x1), (2, .int x2), (3, .int y3_42), (4, .int y4_91o)] → W p l e ({ frames := 1, cells := 0, slots := 0, locals := 23 }) s m (([.ref a0, .int x1, .int x2] : List Value).toArray) below meth c H locs 0 0 Q (F0 m 144 ls [])) → ∀ (H : Heap) (locs : List Loc) (ls : Array Slot), va_P D vwCl (w_X9_goesOn kc a0 a1 a2 a3 a4 a5 a6 a7 a8 a9 a10 a11 a12 a13 a14 a15 a16 a17 a18 a19 a20 a21 a22 a23 a24 a25 a26 a27 a28 thrown loftSize startWind seed draftLoft draftStart draftSeed length textSize start next_ token value error errorAt number undos now chance_42 turns turnFrom turnWeight chanceNext_91 turnTo) H → va_D A (w_X9_goesOn kc a0 a1 a2 a3 a4 a5 a6 a7 a8 a9 a10 a11 a12 a13 a14 a15 a16 a17 a18 a19 a20 a21 a22 a23 a24 a25 a26 a27 a28 thrown loftSize startWind seed draftLoft draftStart draftSeed length textSize start next_ token value error errorAt number undos now chance_42 turns turnFrom turnWeight chanceNext_91 turnTo) → va_S A s.heap H locs → lv_has ls 5 [(0, .ref a0), (1, .int x1), (2, .int x2), (3, .int y3_42), (4, .int y4_91)] → W p l e ({ frames := 1, cells := 0, slots := 0, locals := 23 }) s m (([.ref a0, .int x1, .int x2] : List Value).toArray) below meth c H locs 0 0 Q (F0 m 91 ls []) := by
          intro n
          induction n with
          | zero => intro _ _ _ _ hf; rw [f_X9_goesOn_91.eq_1] at hf; cases hf
          | succ n ih =>
            intro y4_91 chanceNext_91 y4_91o chanceNext_91o hf hk H locs ls hP hD hS hl
            rw [f_X9_goesOn_91.eq_2] at hf
            refine lv_iload hx hb dX9_goesOn_91 (lv_at hl 4 rfl) ?_
            refine lv_aload_n hx hb dX9_goesOn_93 rfl (lv_at hl 0 rfl) ?_
            refine va_get (D := D) (ci := 9) (v := .ref a10) (C := RX9) (T := TX9) (N := 45) hx hb hts in_X9 hown hK hP 0 rfl rfl 10 (by decide) lk_41 (fun _ h9 => h9) rfl dX9_goesOn_94 ?_
            refine lv_iconst (v := 0) hx hb dX9_goesOn_97 (by decide) ?_
            obtain ⟨hi, hf⟩ := gIx_some hf
            refine va_iald hx hb hK hP 3 1 rfl rfl hi dX9_goesOn_98 ?_
            refine lv_icmp_ge (tgt := 144) hx hb dX9_goesOn_99 (by decide) (fun hc => ?_) (fun hc => ?_)
            · have hf := o_t hc hf
              cases hf
              exact hk _ _ _ hP hD hS (lv_sub hl [0, 1, 2, 3, 4] rfl)
            · have hf := o_f hc hf
              refine lv_aload_n hx hb dX9_goesOn_102 rfl (lv_at hl 0 rfl) ?_
              refine va_get (D := D) (ci := 9) (v := .ref a22) (C := RX9) (T := TX9) (N := 45) hx hb hts in_X9 hown hK hP 0 rfl rfl 37 (by decide) lk_82 (fun _ h9 => h9) rfl dX9_goesOn_103 ?_
              refine lv_aload_n hx hb dX9_goesOn_106 rfl (lv_at hl 0 rfl) ?_
              refine va_get (D := D) (ci := 9) (v := .ref a12) (C := RX9) (T := TX9) (N := 45) hx hb hts in_X9 hown hK hP 0 rfl rfl 12 (by decide) lk_47 (fun _ h9 => h9) rfl dX9_goesOn_107 ?_
              refine lv_iload hx hb dX9_goesOn_110 (lv_at hl 4 rfl) ?_
              obtain ⟨hi, hf⟩ := gIx_some hf
              refine va_iald hx hb hK hP 7 1 rfl rfl hi dX9_goesOn_112 ?_
              refine lv_dup2_11 hx hb dX9_goesOn_113 rfl rfl ?_
              obtain ⟨hi, hf⟩ := gIx_some hf
              refine va_lald hx hb hK hP 6 2 rfl rfl hi dX9_goesOn_114 ?_
              refine lv_aload_n hx hb dX9_goesOn_115 rfl (lv_at hl 0 rfl) ?_
              refine va_get (D := D) (ci := 9) (v := .ref a21) (C := RX9) (T := TX9) (N := 45) hx hb hts in_X9 hown hK hP 0 rfl rfl 36 (by decide) lk_78 (fun _ h9 => h9) rfl dX9_goesOn_116 ?_
              refine lv_aload_n hx hb dX9_goesOn_119 rfl (lv_at hl 0 rfl) ?_
              refine va_get (D := D) (ci := 9) (v := .ref a11) (C := RX9) (T := TX9) (N := 45) hx hb hts in_X9 hown hK hP 0 rfl rfl 11 (by decide) lk_44 (fun _ h9 => h9) rfl dX9_goesOn_120 ?_
              refine lv_iload hx hb dX9_goesOn_123 (lv_at hl 4 rfl) ?_
              obtain ⟨hi, hf⟩ := gIx_some hf
              refine va_iald hx hb hK hP 4 1 rfl rfl hi dX9_goesOn_125 ?_
              obtain ⟨hi, hf⟩ := gIx_some hf
              refine va_lald hx hb hK hP 2 2 rfl rfl hi dX9_goesOn_126 ?_
              refine lv_aload_n hx hb dX9_goesOn_127 rfl (lv_at hl 0 rfl) ?_
              refine va_get (D := D) (ci := 9) (v := .ref a13) (C := RX9) (T := TX9) (N := 45) hx hb hts in_X9 hown hK hP 0 rfl rfl 13 (by decide) lk_50 (fun _ h9 => h9) rfl dX9_goesOn_128 ?_
              refine lv_iload hx hb dX9_goesOn_131 (lv_at hl 4 rfl) ?_
              obtain ⟨hi, hf⟩ := gIx_some hf
              refine va_iald hx hb hK hP 5 1 rfl rfl hi dX9_goesOn_133 ?_
              refine lv_i2l (v := ((turnWeight (y4_91 : Int32).toNatClampNeg) : Int32).toInt64) hx hb dX9_goesOn_134 rfl ?_
              refine lv_lmul hx hb dX9_goesOn_135 ?_
              refine lv_ladd hx hb dX9_goesOn_136 ?_
              obtain ⟨hi, hf⟩ := gIx_some hf
              refine va_last hx hb hK hP hD hS 6 2 rfl rfl hi dX9_goesOn_137 (fun H locs hP hD hS => ?_)
              have hP : va_P D vwCl (w_X9_goesOn kc a0 a1 a2 a3 a4 a5 a6 a7 a8 a9 a10 a11 a12 a13 a14 a15 a16 a17 a18 a19 a20 a21 a22 a23 a24 a25 a26 a27 a28 thrown loftSize startWind seed draftLoft draftStart draftSeed length textSize start next_ token value error errorAt number undos now chance_42 turns turnFrom turnWeight (vp_updL chanceNext_91 ((turnTo (y4_91 : Int32).toNatClampNeg) : Int32).toNatClampNeg ((chanceNext_91 ((turnTo (y4_91 : Int32).toNatClampNeg) : Int32).toNatClampNeg) + ((chance_42 ((turnFrom (y4_91 : Int32).toNatClampNeg) : Int32).toNatClampNeg) * (((turnWeight (y4_91 : Int32).toNatClampNeg) : Int32).toInt64)))) turnTo) H := hP
              have hD : va_D A (w_X9_goesOn kc a0 a1 a2 a3 a4 a5 a6 a7 a8 a9 a10 a11 a12 a13 a14 a15 a16 a17 a18 a19 a20 a21 a22 a23 a24 a25 a26 a27 a28 thrown loftSize startWind seed draftLoft draftStart draftSeed length textSize start next_ token value error errorAt number undos now chance_42 turns turnFrom turnWeight (vp_updL chanceNext_91 ((turnTo (y4_91 : Int32).toNatClampNeg) : Int32).toNatClampNeg ((chanceNext_91 ((turnTo (y4_91 : Int32).toNatClampNeg) : Int32).toNatClampNeg) + ((chance_42 ((turnFrom (y4_91 : Int32).toNatClampNeg) : Int32).toNatClampNeg) * (((turnWeight (y4_91 : Int32).toNatClampNeg) : Int32).toInt64)))) turnTo) := hD
              refine lv_iinc (v := (y4_91 + 1)) (lv' := [(4, .int (y4_91 + 1)), (0, .ref a0), (1, .int x1), (2, .int x2), (3, .int y3_42)]) hx hb dX9_goesOn_138 hl (k := 4) rfl (by rfl) (by decide) rfl (fun ls hl => ?_)
              refine lv_goto (tgt := 91) hx hb dX9_goesOn_141 (by decide) ?_
              exact ih _ _ _ _ hf hk _ _ _ hP hD hS (lv_sub hl [1, 2, 3, 4, 0] rfl)
        obtain ⟨y4_91o, chanceNext_91o, hc, hf⟩ := ob2_some hf
        refine L91 N _ _ _ _ hc (fun H locs ls hP hD hS hl => ?_) _ _ _ hP hD hS (lv_sub hl [1, 2, 3, 4, 0] rfl)
        refine lv_iconst (v := 0) hx hb dX9_goesOn_144 (by decide) ?_
        refine lv_istore (lv' := [(4, .int 0), (0, .ref a0), (1, .int x1), (2, .int x2), (3, .int y3_42)]) hx hb dX9_goesOn_145 hl (by decide) rfl (fun ls hl => ?_)
        have L147 : ∀ (n : Nat) (y4_147 : Int32) (chance_147 : Nat → Int64) (y4_147o : Int32) (chance_147o : Nat → Int64), f_X9_goesOn_147 N x2 chanceNext_91o n y4_147 chance_147 = some (y4_147o, chance_147o) → (∀ (H : Heap) (locs : List Loc) (ls : Array Slot), va_P D vwCl (w_X9_goesOn kc a0 a1 a2 a3 a4 a5 a6 a7 a8 a9 a10 a11 a12 a13 a14 a15 a16 a17 a18 a19 a20 a21 a22 a23 a24 a25 a26 a27 a28 thrown loftSize startWind seed draftLoft draftStart draftSeed length textSize start next_ token value error errorAt number undos now chance_147o turns turnFrom turnWeight chanceNext_91o turnTo) H → va_D A (w_X9_goesOn kc a0 a1 a2 a3 a4 a5 a6 a7 a8 a9 a10 a11 a12 a13 a14 a15 a16 a17 a18 a19 a20 a21 a22 a23 a24 a25 a26 a27 a28 thrown loftSize startWind seed draftLoft draftStart draftSeed length textSize start next_ token value error errorAt number undos now chance_147o turns turnFrom turnWeight chanceNext_91o turnTo) → va_S A s.heap H locs → lv_has ls 5 [(0, .ref a0), (1, .int x1), (2, .int x2), (3, .int y3_42), (4, .int y4_147o)] → W p l e ({ frames := 1, cells := 0, slots := 0, locals := 23 }) s m (([.ref a0, .int x1, .int x2] : List Value).toArray) below meth c H locs 0 0 Q (F0 m 184 ls [])) → ∀ (H : Heap) (locs : List Loc) (ls : Array Slot), va_P D vwCl (w_X9_goesOn kc a0 a1 a2 a3 a4 a5 a6 a7 a8 a9 a10 a11 a12 a13 a14 a15 a16 a17 a18 a19 a20 a21 a22 a23 a24 a25 a26 a27 a28 thrown loftSize startWind seed draftLoft draftStart draftSeed length textSize start next_ token value error errorAt number undos now chance_147 turns turnFrom turnWeight chanceNext_91o turnTo) H → va_D A (w_X9_goesOn kc a0 a1 a2 a3 a4 a5 a6 a7 a8 a9 a10 a11 a12 a13 a14 a15 a16 a17 a18 a19 a20 a21 a22 a23 a24 a25 a26 a27 a28 thrown loftSize startWind seed draftLoft draftStart draftSeed length textSize start next_ token value error errorAt number undos now chance_147 turns turnFrom turnWeight chanceNext_91o turnTo) → va_S A s.heap H locs → lv_has ls 5 [(0, .ref a0), (1, .int x1), (2, .int x2), (3, .int y3_42), (4, .int y4_147)] → W p l e ({ frames := 1, cells := 0, slots := 0, locals := 23 }) s m (([.ref a0, .int x1, .int x2] : List Value).toArray) below meth c H locs 0 0 Q (F0 m 147 ls []) := by
          intro n
          induction n with
          | zero => intro _ _ _ _ hf; rw [f_X9_goesOn_147.eq_1] at hf; cases hf
          | succ n ih =>
            intro y4_147 chance_147 y4_147o chance_147o hf hk H locs ls hP hD hS hl
            rw [f_X9_goesOn_147.eq_2] at hf
            refine lv_iload hx hb dX9_goesOn_147 (lv_at hl 4 rfl) ?_
            refine lv_bipush (v := 6) hx hb dX9_goesOn_149 (by decide) ?_
            refine lv_icmp_ge (tgt := 184) hx hb dX9_goesOn_151 (by decide) (fun hc => ?_) (fun hc => ?_)
            · have hf := o_t hc hf
              cases hf
              exact hk _ _ _ hP hD hS (lv_sub hl [0, 1, 2, 3, 4] rfl)
            · have hf := o_f hc hf
              refine lv_aload_n hx hb dX9_goesOn_154 rfl (lv_at hl 0 rfl) ?_
              refine va_get (D := D) (ci := 9) (v := .ref a21) (C := RX9) (T := TX9) (N := 45) hx hb hts in_X9 hown hK hP 0 rfl rfl 36 (by decide) lk_78 (fun _ h9 => h9) rfl dX9_goesOn_155 ?_
              refine lv_iload hx hb dX9_goesOn_158 (lv_at hl 4 rfl) ?_
              refine lv_iload hx hb dX9_goesOn_160 (lv_at hl 4 rfl) ?_
              refine lv_iload_n hx hb dX9_goesOn_162 rfl (lv_at hl 2 rfl) ?_
              refine lv_icmp_ne (tgt := 170) hx hb dX9_goesOn_163 (by decide) (fun hc => ?_) (fun hc => ?_)
              · have hf := o_f hc hf
                refine lv_aload_n hx hb dX9_goesOn_170 rfl (lv_at hl 0 rfl) ?_
                refine va_get (D := D) (ci := 9) (v := .ref a22) (C := RX9) (T := TX9) (N := 45) hx hb hts in_X9 hown hK hP 0 rfl rfl 37 (by decide) lk_82 (fun _ h9 => h9) rfl dX9_goesOn_171 ?_
                refine lv_iload hx hb dX9_goesOn_174 (lv_at hl 4 rfl) ?_
                obtain ⟨hi, hf⟩ := gIx_some hf
                refine va_lald hx hb hK hP 6 2 rfl rfl hi dX9_goesOn_176 ?_
                obtain ⟨hi, hf⟩ := gIx_some hf
                refine va_last hx hb hK hP hD hS 2 2 rfl rfl hi dX9_goesOn_177 (fun H locs hP hD hS => ?_)
                have hP : va_P D vwCl (w_X9_goesOn kc a0 a1 a2 a3 a4 a5 a6 a7 a8 a9 a10 a11 a12 a13 a14 a15 a16 a17 a18 a19 a20 a21 a22 a23 a24 a25 a26 a27 a28 thrown loftSize startWind seed draftLoft draftStart draftSeed length textSize start next_ token value error errorAt number undos now (vp_updL chance_147 (y4_147 : Int32).toNatClampNeg (chanceNext_91o (y4_147 : Int32).toNatClampNeg)) turns turnFrom turnWeight chanceNext_91o turnTo) H := hP
                have hD : va_D A (w_X9_goesOn kc a0 a1 a2 a3 a4 a5 a6 a7 a8 a9 a10 a11 a12 a13 a14 a15 a16 a17 a18 a19 a20 a21 a22 a23 a24 a25 a26 a27 a28 thrown loftSize startWind seed draftLoft draftStart draftSeed length textSize start next_ token value error errorAt number undos now (vp_updL chance_147 (y4_147 : Int32).toNatClampNeg (chanceNext_91o (y4_147 : Int32).toNatClampNeg)) turns turnFrom turnWeight chanceNext_91o turnTo) := hD
                refine lv_iinc (v := (y4_147 + 1)) (lv' := [(4, .int (y4_147 + 1)), (0, .ref a0), (1, .int x1), (2, .int x2), (3, .int y3_42)]) hx hb dX9_goesOn_178 hl (k := 4) rfl (by rfl) (by decide) rfl (fun ls hl => ?_)
                refine lv_goto (tgt := 147) hx hb dX9_goesOn_181 (by decide) ?_
                exact ih _ _ _ _ hf hk _ _ _ hP hD hS (lv_sub hl [1, 2, 3, 4, 0] rfl)
              · have hf := o_t hc hf
                refine lv_lconst (v := 0) hx hb dX9_goesOn_166 (by decide) ?_
                refine lv_goto (tgt := 177) hx hb dX9_goesOn_167 (by decide) ?_
                obtain ⟨hi, hf⟩ := gIx_some hf
                refine va_last hx hb hK hP hD hS 2 2 rfl rfl hi dX9_goesOn_177 (fun H locs hP hD hS => ?_)
                have hP : va_P D vwCl (w_X9_goesOn kc a0 a1 a2 a3 a4 a5 a6 a7 a8 a9 a10 a11 a12 a13 a14 a15 a16 a17 a18 a19 a20 a21 a22 a23 a24 a25 a26 a27 a28 thrown loftSize startWind seed draftLoft draftStart draftSeed length textSize start next_ token value error errorAt number undos now (vp_updL chance_147 (y4_147 : Int32).toNatClampNeg 0) turns turnFrom turnWeight chanceNext_91o turnTo) H := hP
                have hD : va_D A (w_X9_goesOn kc a0 a1 a2 a3 a4 a5 a6 a7 a8 a9 a10 a11 a12 a13 a14 a15 a16 a17 a18 a19 a20 a21 a22 a23 a24 a25 a26 a27 a28 thrown loftSize startWind seed draftLoft draftStart draftSeed length textSize start next_ token value error errorAt number undos now (vp_updL chance_147 (y4_147 : Int32).toNatClampNeg 0) turns turnFrom turnWeight chanceNext_91o turnTo) := hD
                refine lv_iinc (v := (y4_147 + 1)) (lv' := [(4, .int (y4_147 + 1)), (0, .ref a0), (1, .int x1), (2, .int x2), (3, .int y3_42)]) hx hb dX9_goesOn_178 hl (k := 4) rfl (by rfl) (by decide) rfl (fun ls hl => ?_)
                refine lv_goto (tgt := 147) hx hb dX9_goesOn_181 (by decide) ?_
                exact ih _ _ _ _ hf hk _ _ _ hP hD hS (lv_sub hl [1, 2, 3, 4, 0] rfl)
        obtain ⟨y4_147o, chance_147o, hc, hf⟩ := ob2_some hf
        refine L147 N _ _ _ _ hc (fun H locs ls hP hD hS hl => ?_) _ _ _ hP hD hS (lv_sub hl [1, 2, 3, 4, 0] rfl)
        refine lv_iinc (v := (y3_42 + 1)) (lv' := [(3, .int (y3_42 + 1)), (0, .ref a0), (1, .int x1), (2, .int x2), (4, .int y4_147o)]) hx hb dX9_goesOn_184 hl (k := 3) rfl (by rfl) (by decide) rfl (fun ls hl => ?_)
        refine lv_goto (tgt := 42) hx hb dX9_goesOn_187 (by decide) ?_
        exact ih _ _ _ _ _ _ hf hk _ _ _ hP hD hS (lv_sub hl [1, 2, 3, 0] rfl)
  obtain ⟨y3_42o, chance_42o, chanceNext_42o, hc, hf⟩ := ob3_some hf
  refine L42 N _ _ _ _ _ _ hc (fun H locs ls hP hD hS hl => ?_) _ _ _ hP hD hS (lv_sub hl [1, 2, 3, 0] rfl)
  cases hf
  exact kR _ _ _ _ hP hD hS dX9_goesOn_190
abbrev w_X9_areDays (kc : Nat → ClassId) : va_W := []
set_option maxHeartbeats 4000000 in
set_option maxRecDepth 100000 in
theorem c_X9_areDays (l : Launch) (D : va_G) (kc : Nat → ClassId) (N : Nat) (x0 : Int32) (r_ : Int32) (hf : f_X9_areDays N x0 = some r_) : MZ l yX9_areDays wsX9_areDays ({ frames := 1, cells := 0, slots := 0, locals := 22 }) D kc [.int x0] (w_X9_areDays kc ) (w_X9_areDays kc ) r_ := by
  refine gM_Z (cc := cX9_areDays) (maxL := 1) (by decide) rfl (Nat.le_of_ble_eq_true rfl) ?_
  intro p e s m below meth c A ls Q hx hb hml hown hts hN hK hP hD hA hl kR
  have hS : va_S A s.heap s.heap [] := va_S.rf
  have hl : lv_has ls 1 [(0, .int x0)] := hl
  unfold f_X9_areDays at hf
  refine lv_iload_n hx hb dX9_areDays_0 rfl (lv_at hl 0 rfl) ?_
  refine lv_iconst (v := 0) hx hb dX9_areDays_1 (by decide) ?_
  refine lv_bipush (v := 8) hx hb dX9_areDays_2 (by decide) ?_
  obtain ⟨r_1, hc, hf⟩ := ob1_some hf
  refine g_SZ (As := [.int x0, .int 0, .int 8]) (rest := []) (ws' := (w_X9_areDays kc )) ⟨hx, hb, hml, hown, hts⟩ hN hK hP hD hS hA (c_X9_within l D kc N x0 0 8 r_1 hc) (va_cwS 3 hts gX9_areDays_X9_within rfl rfl rfl (by decide +kernel) ⟨Nat.le_of_ble_eq_true rfl, Nat.le_of_ble_eq_true rfl⟩) [] [] [] (by exact ⟨rfl, rfl, by decide, rfl⟩) rfl hl.1 rfl (Nat.le_of_ble_eq_true rfl) dX9_areDays_4 ⟨Nat.le_refl _, Nat.le_refl _⟩ (fun H locs hz hP hD hS => ?_)
  have hz_2 := hz
  cases hf
  exact kR _ _ _ _ hz_2 hP hD hS dX9_areDays_7
abbrev w_X9_isWind (kc : Nat → ClassId) (a0 a1 a2 a3 a4 a5 a6 a7 a8 a9 a10 a11 a12 a13 a14 a15 a16 a17 a18 a19 a20 a21 a22 a23 a24 a25 a26 a27 a28 : Nat) (thrown : Int32) (loftSize : Int32) (startWind : Int32) (seed : Int32) (draftLoft : Int32) (draftStart : Int32) (draftSeed : Int32) (length : Int32) (textSize : Int32) (start : Int32) (next_ : Int32) (token : Int32) (value : Int32) (error : Int32) (errorAt : Int32) (number : Int32) (undos : Int32) (winds : Nat → Int32) : va_W := [(a0, .inr (9, [.int thrown, .ref a1, .ref a2, .ref a3, .ref a4, .ref a5, .ref a6, .ref a7, .ref a8, .ref a9, .ref a10, .ref a11, .ref a12, .ref a13, .ref a14, .ref a15, .ref a16, .ref a17, .ref a18, .ref a19, .int loftSize, .int startWind, .int seed, .int draftLoft, .int draftStart, .int draftSeed, .ref a20, .int length, .int textSize, .int start, .int next_, .int token, .int value, .int error, .int errorAt, .int number, .ref a21, .ref a22, .ref a23, .ref a24, .ref a25, .int undos, .ref a26, .ref a27, .ref a28])), (a6, .inl (kc 1, 2, .inl winds))]
set_option maxHeartbeats 4000000 in
set_option maxRecDepth 100000 in
theorem c_X9_isWind (l : Launch) (D : va_G) (kc : Nat → ClassId) (N : Nat) (a0 a1 a2 a3 a4 a5 a6 a7 a8 a9 a10 a11 a12 a13 a14 a15 a16 a17 a18 a19 a20 a21 a22 a23 a24 a25 a26 a27 a28 : Nat) (thrown : Int32) (loftSize : Int32) (startWind : Int32) (seed : Int32) (draftLoft : Int32) (draftStart : Int32) (draftSeed : Int32) (length : Int32) (textSize : Int32) (start : Int32) (next_ : Int32) (token : Int32) (value : Int32) (error : Int32) (errorAt : Int32) (number : Int32) (undos : Int32) (winds : Nat → Int32) (x1 : Int32) (r_ : Int32) (hf : f_X9_isWind N winds x1 = some r_) : MZ l yX9_isWind wsX9_isWind ({ frames := 1, cells := 0, slots := 0, locals := 22 }) D kc [.ref a0, .int x1] (w_X9_isWind kc a0 a1 a2 a3 a4 a5 a6 a7 a8 a9 a10 a11 a12 a13 a14 a15 a16 a17 a18 a19 a20 a21 a22 a23 a24 a25 a26 a27 a28 thrown loftSize startWind seed draftLoft draftStart draftSeed length textSize start next_ token value error errorAt number undos winds) (w_X9_isWind kc a0 a1 a2 a3 a4 a5 a6 a7 a8 a9 a10 a11 a12 a13 a14 a15 a16 a17 a18 a19 a20 a21 a22 a23 a24 a25 a26 a27 a28 thrown loftSize startWind seed draftLoft draftStart draftSeed length textSize start next_ token value error errorAt number undos winds) r_ := by
  refine gM_Z (cc := cX9_isWind) (maxL := 2) (by decide) rfl (Nat.le_of_ble_eq_true rfl) ?_
  intro p e s m below meth c A ls Q hx hb hml hown hts hN hK hP hD hA hl kR
  have hS : va_S A s.heap s.heap [] := va_S.rf
  have hl : lv_has ls 2 [(0, .ref a0), (1, .int x1)] := hl
  have in_X9 : ∀ w ∈ u_ws RX9 TX9 45, w ∈ wsX9_isWind := by decide +kernel
  have lk_29 := hts (.fieldLink RX9 29 "BalloonMailModel" "winds" "[I") (by decide +kernel)
  unfold f_X9_isWind at hf
  refine lv_iload_n hx hb dX9_isWind_0 rfl (lv_at hl 1 rfl) ?_
  refine lv_iconst (v := 0) hx hb dX9_isWind_1 (by decide) ?_
  refine lv_aload_n hx hb dX9_isWind_2 rfl (lv_at hl 0 rfl) ?_
  refine va_get (D := D) (ci := 9) (v := .ref a6) (C := RX9) (T := TX9) (N := 45) hx hb hts in_X9 hown hK hP 0 rfl rfl 6 (by decide) lk_29 (fun _ h9 => h9) rfl dX9_isWind_3 ?_
  refine lv_iconst (v := 0) hx hb dX9_isWind_6 (by decide) ?_
  obtain ⟨hi, hf⟩ := gIx_some hf
  refine va_iald hx hb hK hP 1 1 rfl rfl hi dX9_isWind_7 ?_
  refine lv_iconst (v := 1) hx hb dX9_isWind_8 (by decide) ?_
  refine lv_isub hx hb dX9_isWind_9 ?_
  obtain ⟨r_1, hc, hf⟩ := ob1_some hf
  refine g_SZ (As := [.int x1, .int 0, .int ((winds (0 : Int32).toNatClampNeg) - 1)]) (rest := []) (ws' := (w_X9_isWind kc a0 a1 a2 a3 a4 a5 a6 a7 a8 a9 a10 a11 a12 a13 a14 a15 a16 a17 a18 a19 a20 a21 a22 a23 a24 a25 a26 a27 a28 thrown loftSize startWind seed draftLoft draftStart draftSeed length textSize start next_ token value error errorAt number undos winds)) ⟨hx, hb, hml, hown, hts⟩ hN hK hP hD hS hA (c_X9_within l D kc N x1 0 ((winds (0 : Int32).toNatClampNeg) - 1) r_1 hc) (va_cwS 3 hts gX9_isWind_X9_within rfl rfl rfl (by decide +kernel) ⟨Nat.le_of_ble_eq_true rfl, Nat.le_of_ble_eq_true rfl⟩) [] [0, 1] [0, 1] (by exact ⟨rfl, rfl, by decide, rfl⟩) rfl hl.1 rfl (Nat.le_of_ble_eq_true rfl) dX9_isWind_10 ⟨Nat.le_refl _, Nat.le_refl _⟩ (fun H locs hz hP hD hS => ?_)
  have hz_2 := hz
  cases hf
  exact kR _ _ _ _ hz_2 hP hD hS dX9_isWind_13
abbrev w_X9_windChance (kc : Nat → ClassId) (a0 a1 a2 a3 a4 a5 a6 a7 a8 a9 a10 a11 a12 a13 a14 a15 a16 a17 a18 a19 a20 a21 a22 a23 a24 a25 a26 a27 a28 : Nat) (thrown : Int32) (loftSize : Int32) (startWind : Int32) (seed : Int32) (draftLoft : Int32) (draftStart : Int32) (draftSeed : Int32) (length : Int32) (textSize : Int32) (start : Int32) (next_ : Int32) (token : Int32) (value : Int32) (error : Int32) (errorAt : Int32) (number : Int32) (undos : Int32) (winds : Nat → Int32) (now : Nat → Int32) (chance : Nat → Int64) (turns : Nat → Int32) (turnFrom : Nat → Int32) (turnWeight : Nat → Int32) (chanceNext : Nat → Int64) (turnTo : Nat → Int32) : va_W := [(a0, .inr (9, [.int thrown, .ref a1, .ref a2, .ref a3, .ref a4, .ref a5, .ref a6, .ref a7, .ref a8, .ref a9, .ref a10, .ref a11, .ref a12, .ref a13, .ref a14, .ref a15, .ref a16, .ref a17, .ref a18, .ref a19, .int loftSize, .int startWind, .int seed, .int draftLoft, .int draftStart, .int draftSeed, .ref a20, .int length, .int textSize, .int start, .int next_, .int token, .int value, .int error, .int errorAt, .int number, .ref a21, .ref a22, .ref a23, .ref a24, .ref a25, .int undos, .ref a26, .ref a27, .ref a28])), (a6, .inl (kc 1, 2, .inl winds)), (a1, .inl (kc 1, 213, .inl now)), (a21, .inl (kc 2, 6, .inr (.inl chance))), (a10, .inl (kc 1, 2, .inl turns)), (a11, .inl (kc 1, 60, .inl turnFrom)), (a13, .inl (kc 1, 60, .inl turnWeight)), (a22, .inl (kc 2, 6, .inr (.inl chanceNext))), (a12, .inl (kc 1, 60, .inl turnTo))]
set_option maxHeartbeats 4000000 in
set_option maxRecDepth 100000 in
theorem c_X9_windChance (l : Launch) (D : va_G) (kc : Nat → ClassId) (N : Nat) (a0 a1 a2 a3 a4 a5 a6 a7 a8 a9 a10 a11 a12 a13 a14 a15 a16 a17 a18 a19 a20 a21 a22 a23 a24 a25 a26 a27 a28 : Nat) (thrown : Int32) (loftSize : Int32) (startWind : Int32) (seed : Int32) (draftLoft : Int32) (draftStart : Int32) (draftSeed : Int32) (length : Int32) (textSize : Int32) (start : Int32) (next_ : Int32) (token : Int32) (value : Int32) (error : Int32) (errorAt : Int32) (number : Int32) (undos : Int32) (winds : Nat → Int32) (now : Nat → Int32) (chance : Nat → Int64) (turns : Nat → Int32) (turnFrom : Nat → Int32) (turnWeight : Nat → Int32) (chanceNext : Nat → Int64) (turnTo : Nat → Int32) (x1 : Int32) (x2 : Int32) (r_ : Int64) (thrown' : Int32) (chance' : Nat → Int64) (chanceNext' : Nat → Int64) (hf : f_X9_windChance N winds now chance turns turnFrom turnWeight chanceNext turnTo x1 x2 = some (r_, thrown', chance', chanceNext')) : ML l yX9_windChance wsX9_windChance ({ frames := 2, cells := 0, slots := 0, locals := 47 }) D kc [.ref a0, .int x1, .int x2] (w_X9_windChance kc a0 a1 a2 a3 a4 a5 a6 a7 a8 a9 a10 a11 a12 a13 a14 a15 a16 a17 a18 a19 a20 a21 a22 a23 a24 a25 a26 a27 a28 thrown loftSize startWind seed draftLoft draftStart draftSeed length textSize start next_ token value error errorAt number undos winds now chance turns turnFrom turnWeight chanceNext turnTo) (w_X9_windChance kc a0 a1 a2 a3 a4 a5 a6 a7 a8 a9 a10 a11 a12 a13 a14 a15 a16 a17 a18 a19 a20 a21 a22 a23 a24 a25 a26 a27 a28 thrown' loftSize startWind seed draftLoft draftStart draftSeed length textSize start next_ token value error errorAt number undos winds now chance' turns turnFrom turnWeight chanceNext' turnTo) r_ := by
  refine gM_L (cc := cX9_windChance) (maxL := 3) (by decide) rfl (Nat.le_of_ble_eq_true rfl) ?_
  intro p e s m below meth c A ls Q hx hb hml hown hts hN hK hP hD hA hl kR
  have hS : va_S A s.heap s.heap [] := va_S.rf
  have hl : lv_has ls 3 [(0, .ref a0), (1, .int x1), (2, .int x2)] := hl
  have in_X9 : ∀ w ∈ u_ws RX9 TX9 45, w ∈ wsX9_windChance := by decide +kernel
  have lk_1 := hts (.fieldLink RX9 1 "BalloonMailModel" "thrown" "I") (by decide +kernel)
  have lk_78 := hts (.fieldLink RX9 78 "BalloonMailModel" "chance" "[J") (by decide +kernel)
  unfold f_X9_windChance at hf
  refine lv_aload_n hx hb dX9_windChance_0 rfl (lv_at hl 0 rfl) ?_
  refine lv_iconst (v := 0) hx hb dX9_windChance_1 (by decide) ?_
  refine va_put (D := D) (ci := 9) (v := .int 0) (ty := .int) (C := RX9) (T := TX9) (N := 45) hx hb hts in_X9 tyX9 tyX9_ok nmX9 hown hK hP hD hS 0 rfl rfl 0 (by decide) lk_1 (fun _ h9 => h9) rfl (by decide +kernel) rfl rfl (Nat.le_of_ble_eq_true rfl) dX9_windChance_2 (fun H locs hP hD hS => ?_)
  have hP : va_P D vwCl (w_X9_windChance kc a0 a1 a2 a3 a4 a5 a6 a7 a8 a9 a10 a11 a12 a13 a14 a15 a16 a17 a18 a19 a20 a21 a22 a23 a24 a25 a26 a27 a28 0 loftSize startWind seed draftLoft draftStart draftSeed length textSize start next_ token value error errorAt number undos winds now chance turns turnFrom turnWeight chanceNext turnTo) H := hP
  have hD : va_D A (w_X9_windChance kc a0 a1 a2 a3 a4 a5 a6 a7 a8 a9 a10 a11 a12 a13 a14 a15 a16 a17 a18 a19 a20 a21 a22 a23 a24 a25 a26 a27 a28 0 loftSize startWind seed draftLoft draftStart draftSeed length textSize start next_ token value error errorAt number undos winds now chance turns turnFrom turnWeight chanceNext turnTo) := hD
  refine lv_aload_n hx hb dX9_windChance_5 rfl (lv_at hl 0 rfl) ?_
  refine lv_iload_n hx hb dX9_windChance_6 rfl (lv_at hl 1 rfl) ?_
  obtain ⟨r_1, hc, hf⟩ := ob1_some hf
  refine g_VZ (As := [.int x1]) (rest := []) (ws' := (w_X9_windChance kc a0 a1 a2 a3 a4 a5 a6 a7 a8 a9 a10 a11 a12 a13 a14 a15 a16 a17 a18 a19 a20 a21 a22 a23 a24 a25 a26 a27 a28 0 loftSize startWind seed draftLoft draftStart draftSeed length textSize start next_ token value error errorAt number undos winds now chance turns turnFrom turnWeight chanceNext turnTo)) ⟨hx, hb, hml, hown, hts⟩ hN hK hP hD hS hA (c_X9_isWind l D kc N a0 a1 a2 a3 a4 a5 a6 a7 a8 a9 a10 a11 a12 a13 a14 a15 a16 a17 a18 a19 a20 a21 a22 a23 a24 a25 a26 a27 a28 0 loftSize startWind seed draftLoft draftStart draftSeed length textSize start next_ token value error errorAt number undos winds x1 r_1 hc) (cwV 1 hts gX9_windChance_X9_isWind rfl rfl rfl (by decide +kernel) ⟨Nat.le_of_ble_eq_true rfl, Nat.le_of_ble_eq_true rfl⟩) [0, 1] [2, 3, 4, 5, 6, 7, 8] [7, 8, 0, 1, 2, 3, 4, 5, 6] (by exact ⟨rfl, rfl, by decide, rfl⟩) 0 9 rfl rfl rfl rfl hl.1 rfl (Nat.le_of_ble_eq_true rfl) dX9_windChance_7 ⟨Nat.le_refl _, Nat.le_refl _⟩ (fun H locs hz hP hD hS => ?_)
  have hz_2 := hz
  refine lv_if_eq (tgt := 20) hx hb dX9_windChance_10 (by decide) (fun hc => ?_) (fun hc => ?_)
  · have hf := o_t hc hf
    refine lv_ldc2 (v := (-1)) hx hb hown (hts (.constantLong RX9 261 (-1)) (by decide +kernel)) dX9_windChance_20 ?_
    cases hf
    exact kR _ _ _ _ hP hD hS dX9_windChance_23
  · have hf := o_f hc hf
    refine lv_iload_n hx hb dX9_windChance_13 rfl (lv_at hl 2 rfl) ?_
    obtain ⟨r_3, hc, hf⟩ := ob1_some hf
    refine g_SZ (As := [.int x2]) (rest := []) (ws' := (w_X9_windChance kc a0 a1 a2 a3 a4 a5 a6 a7 a8 a9 a10 a11 a12 a13 a14 a15 a16 a17 a18 a19 a20 a21 a22 a23 a24 a25 a26 a27 a28 0 loftSize startWind seed draftLoft draftStart draftSeed length textSize start next_ token value error errorAt number undos winds now chance turns turnFrom turnWeight chanceNext turnTo)) ⟨hx, hb, hml, hown, hts⟩ hN hK hP hD hS hA (c_X9_areDays l D kc N x2 r_3 hc) (va_cwS 1 hts gX9_windChance_X9_areDays rfl rfl rfl (by decide +kernel) ⟨Nat.le_of_ble_eq_true rfl, Nat.le_of_ble_eq_true rfl⟩) [] [0, 1, 2, 3, 4, 5, 6, 7, 8] [0, 1, 2, 3, 4, 5, 6, 7, 8] (by exact ⟨rfl, rfl, by decide, rfl⟩) rfl hl.1 rfl (Nat.le_of_ble_eq_true rfl) dX9_windChance_14 ⟨Nat.le_refl _, Nat.le_refl _⟩ (fun H locs hz hP hD hS => ?_)
    have hz_4 := hz
    refine lv_if_ne (tgt := 24) hx hb dX9_windChance_17 (by decide) (fun hc => ?_) (fun hc => ?_)
    · have hf := o_f hc hf
      refine lv_aload_n hx hb dX9_windChance_24 rfl (lv_at hl 0 rfl) ?_
      refine lv_iload_n hx hb dX9_windChance_25 rfl (lv_at hl 2 rfl) ?_
      refine lv_bipush (v := (-2)) hx hb dX9_windChance_26 (by decide) ?_
      obtain ⟨chance_5, chanceNext_6, hc, hf⟩ := ob2_some hf
      refine g_VV (As := [.int x2, .int (-2)]) (rest := []) (ws' := (w_X9_windChance kc a0 a1 a2 a3 a4 a5 a6 a7 a8 a9 a10 a11 a12 a13 a14 a15 a16 a17 a18 a19 a20 a21 a22 a23 a24 a25 a26 a27 a28 0 loftSize startWind seed draftLoft draftStart draftSeed length textSize start next_ token value error errorAt number undos winds now chance_5 turns turnFrom turnWeight chanceNext_6 turnTo)) ⟨hx, hb, hml, hown, hts⟩ hN hK hP hD hS hA (c_X9_goesOn l D kc N a0 a1 a2 a3 a4 a5 a6 a7 a8 a9 a10 a11 a12 a13 a14 a15 a16 a17 a18 a19 a20 a21 a22 a23 a24 a25 a26 a27 a28 0 loftSize startWind seed draftLoft draftStart draftSeed length textSize start next_ token value error errorAt number undos now chance turns turnFrom turnWeight chanceNext turnTo x2 (-2) chance_5 chanceNext_6 hc) (cwV 2 hts gX9_windChance_X9_goesOn rfl rfl rfl (by decide +kernel) ⟨Nat.le_of_ble_eq_true rfl, Nat.le_of_ble_eq_true rfl⟩) [0, 2, 3, 4, 5, 6, 7, 8] [1] [1, 0, 2, 3, 4, 5, 6, 7, 8] (by exact ⟨rfl, rfl, by decide, rfl⟩) 0 9 rfl rfl rfl rfl hl.1 rfl (Nat.le_of_ble_eq_true rfl) dX9_windChance_28 ⟨Nat.le_refl _, Nat.le_refl _⟩ (fun H locs hP hD hS => ?_)
      refine lv_aload_n hx hb dX9_windChance_31 rfl (lv_at hl 0 rfl) ?_
      refine va_get (D := D) (ci := 9) (v := .ref a21) (C := RX9) (T := TX9) (N := 45) hx hb hts in_X9 hown hK hP 0 rfl rfl 36 (by decide) lk_78 (fun _ h9 => h9) rfl dX9_windChance_32 ?_
      refine lv_iload_n hx hb dX9_windChance_35 rfl (lv_at hl 1 rfl) ?_
      obtain ⟨hi, hf⟩ := gIx_some hf
      refine va_lald hx hb hK hP 3 2 rfl rfl hi dX9_windChance_36 ?_
      cases hf
      exact kR _ _ _ _ hP hD hS dX9_windChance_37
    · have hf := o_t hc hf
      refine lv_ldc2 (v := (-1)) hx hb hown (hts (.constantLong RX9 261 (-1)) (by decide +kernel)) dX9_windChance_20 ?_
      cases hf
      exact kR _ _ _ _ hP hD hS dX9_windChance_23
abbrev w_X9_avoidChance (kc : Nat → ClassId) (a0 a1 a2 a3 a4 a5 a6 a7 a8 a9 a10 a11 a12 a13 a14 a15 a16 a17 a18 a19 a20 a21 a22 a23 a24 a25 a26 a27 a28 : Nat) (thrown : Int32) (loftSize : Int32) (startWind : Int32) (seed : Int32) (draftLoft : Int32) (draftStart : Int32) (draftSeed : Int32) (length : Int32) (textSize : Int32) (start : Int32) (next_ : Int32) (token : Int32) (value : Int32) (error : Int32) (errorAt : Int32) (number : Int32) (undos : Int32) (winds : Nat → Int32) (now : Nat → Int32) (chance : Nat → Int64) (turns : Nat → Int32) (turnFrom : Nat → Int32) (turnWeight : Nat → Int32) (chanceNext : Nat → Int64) (turnTo : Nat → Int32) : va_W := [(a0, .inr (9, [.int thrown, .ref a1, .ref a2, .ref a3, .ref a4, .ref a5, .ref a6, .ref a7, .ref a8, .ref a9, .ref a10, .ref a11, .ref a12, .ref a13, .ref a14, .ref a15, .ref a16, .ref a17, .ref a18, .ref a19, .int loftSize, .int startWind, .int seed, .int draftLoft, .int draftStart, .int draftSeed, .ref a20, .int length, .int textSize, .int start, .int next_, .int token, .int value, .int error, .int errorAt, .int number, .ref a21, .ref a22, .ref a23, .ref a24, .ref a25, .int undos, .ref a26, .ref a27, .ref a28])), (a6, .inl (kc 1, 2, .inl winds)), (a1, .inl (kc 1, 213, .inl now)), (a21, .inl (kc 2, 6, .inr (.inl chance))), (a10, .inl (kc 1, 2, .inl turns)), (a11, .inl (kc 1, 60, .inl turnFrom)), (a13, .inl (kc 1, 60, .inl turnWeight)), (a22, .inl (kc 2, 6, .inr (.inl chanceNext))), (a12, .inl (kc 1, 60, .inl turnTo))]
set_option maxHeartbeats 4000000 in
set_option maxRecDepth 100000 in
theorem c_X9_avoidChance (l : Launch) (D : va_G) (kc : Nat → ClassId) (N : Nat) (a0 a1 a2 a3 a4 a5 a6 a7 a8 a9 a10 a11 a12 a13 a14 a15 a16 a17 a18 a19 a20 a21 a22 a23 a24 a25 a26 a27 a28 : Nat) (thrown : Int32) (loftSize : Int32) (startWind : Int32) (seed : Int32) (draftLoft : Int32) (draftStart : Int32) (draftSeed : Int32) (length : Int32) (textSize : Int32) (start : Int32) (next_ : Int32) (token : Int32) (value : Int32) (error : Int32) (errorAt : Int32) (number : Int32) (undos : Int32) (winds : Nat → Int32) (now : Nat → Int32) (chance : Nat → Int64) (turns : Nat → Int32) (turnFrom : Nat → Int32) (turnWeight : Nat → Int32) (chanceNext : Nat → Int64) (turnTo : Nat → Int32) (x1 : Int32) (x2 : Int32) (r_ : Int64) (thrown' : Int32) (chance' : Nat → Int64) (chanceNext' : Nat → Int64) (hf : f_X9_avoidChance N winds now chance turns turnFrom turnWeight chanceNext turnTo x1 x2 = some (r_, thrown', chance', chanceNext')) : ML l yX9_avoidChance wsX9_avoidChance ({ frames := 2, cells := 0, slots := 0, locals := 47 }) D kc [.ref a0, .int x1, .int x2] (w_X9_avoidChance kc a0 a1 a2 a3 a4 a5 a6 a7 a8 a9 a10 a11 a12 a13 a14 a15 a16 a17 a18 a19 a20 a21 a22 a23 a24 a25 a26 a27 a28 thrown loftSize startWind seed draftLoft draftStart draftSeed length textSize start next_ token value error errorAt number undos winds now chance turns turnFrom turnWeight chanceNext turnTo) (w_X9_avoidChance kc a0 a1 a2 a3 a4 a5 a6 a7 a8 a9 a10 a11 a12 a13 a14 a15 a16 a17 a18 a19 a20 a21 a22 a23 a24 a25 a26 a27 a28 thrown' loftSize startWind seed draftLoft draftStart draftSeed length textSize start next_ token value error errorAt number undos winds now chance' turns turnFrom turnWeight chanceNext' turnTo) r_ := by
  refine gM_L (cc := cX9_avoidChance) (maxL := 6) (by decide) rfl (Nat.le_of_ble_eq_true rfl) ?_
  intro p e s m below meth c A ls Q hx hb hml hown hts hN hK hP hD hA hl kR
  have hS : va_S A s.heap s.heap [] := va_S.rf
  have hl : lv_has ls 6 [(0, .ref a0), (1, .int x1), (2, .int x2)] := hl
  have in_X9 : ∀ w ∈ u_ws RX9 TX9 45, w ∈ wsX9_avoidChance := by decide +kernel
  have lk_1 := hts (.fieldLink RX9 1 "BalloonMailModel" "thrown" "I") (by decide +kernel)
  have lk_78 := hts (.fieldLink RX9 78 "BalloonMailModel" "chance" "[J") (by decide +kernel)
  unfold f_X9_avoidChance at hf
  refine lv_aload_n hx hb dX9_avoidChance_0 rfl (lv_at hl 0 rfl) ?_
  refine lv_iconst (v := 0) hx hb dX9_avoidChance_1 (by decide) ?_
  refine va_put (D := D) (ci := 9) (v := .int 0) (ty := .int) (C := RX9) (T := TX9) (N := 45) hx hb hts in_X9 tyX9 tyX9_ok nmX9 hown hK hP hD hS 0 rfl rfl 0 (by decide) lk_1 (fun _ h9 => h9) rfl (by decide +kernel) rfl rfl (Nat.le_of_ble_eq_true rfl) dX9_avoidChance_2 (fun H locs hP hD hS => ?_)
  have hP : va_P D vwCl (w_X9_avoidChance kc a0 a1 a2 a3 a4 a5 a6 a7 a8 a9 a10 a11 a12 a13 a14 a15 a16 a17 a18 a19 a20 a21 a22 a23 a24 a25 a26 a27 a28 0 loftSize startWind seed draftLoft draftStart draftSeed length textSize start next_ token value error errorAt number undos winds now chance turns turnFrom turnWeight chanceNext turnTo) H := hP
  have hD : va_D A (w_X9_avoidChance kc a0 a1 a2 a3 a4 a5 a6 a7 a8 a9 a10 a11 a12 a13 a14 a15 a16 a17 a18 a19 a20 a21 a22 a23 a24 a25 a26 a27 a28 0 loftSize startWind seed draftLoft draftStart draftSeed length textSize start next_ token value error errorAt number undos winds now chance turns turnFrom turnWeight chanceNext turnTo) := hD
  refine lv_aload_n hx hb dX9_avoidChance_5 rfl (lv_at hl 0 rfl) ?_
  refine lv_iload_n hx hb dX9_avoidChance_6 rfl (lv_at hl 1 rfl) ?_
  obtain ⟨r_1, hc, hf⟩ := ob1_some hf
  refine g_VZ (As := [.int x1]) (rest := []) (ws' := (w_X9_avoidChance kc a0 a1 a2 a3 a4 a5 a6 a7 a8 a9 a10 a11 a12 a13 a14 a15 a16 a17 a18 a19 a20 a21 a22 a23 a24 a25 a26 a27 a28 0 loftSize startWind seed draftLoft draftStart draftSeed length textSize start next_ token value error errorAt number undos winds now chance turns turnFrom turnWeight chanceNext turnTo)) ⟨hx, hb, hml, hown, hts⟩ hN hK hP hD hS hA (c_X9_isWind l D kc N a0 a1 a2 a3 a4 a5 a6 a7 a8 a9 a10 a11 a12 a13 a14 a15 a16 a17 a18 a19 a20 a21 a22 a23 a24 a25 a26 a27 a28 0 loftSize startWind seed draftLoft draftStart draftSeed length textSize start next_ token value error errorAt number undos winds x1 r_1 hc) (cwV 1 hts gX9_avoidChance_X9_isWind rfl rfl rfl (by decide +kernel) ⟨Nat.le_of_ble_eq_true rfl, Nat.le_of_ble_eq_true rfl⟩) [0, 1] [2, 3, 4, 5, 6, 7, 8] [7, 8, 0, 1, 2, 3, 4, 5, 6] (by exact ⟨rfl, rfl, by decide, rfl⟩) 0 9 rfl rfl rfl rfl hl.1 rfl (Nat.le_of_ble_eq_true rfl) dX9_avoidChance_7 ⟨Nat.le_refl _, Nat.le_refl _⟩ (fun H locs hz hP hD hS => ?_)
  have hz_2 := hz
  refine lv_if_eq (tgt := 20) hx hb dX9_avoidChance_10 (by decide) (fun hc => ?_) (fun hc => ?_)
  · have hf := o_t hc hf
    refine lv_ldc2 (v := (-1)) hx hb hown (hts (.constantLong RX9 261 (-1)) (by decide +kernel)) dX9_avoidChance_20 ?_
    cases hf
    exact kR _ _ _ _ hP hD hS dX9_avoidChance_23
  · have hf := o_f hc hf
    refine lv_iload_n hx hb dX9_avoidChance_13 rfl (lv_at hl 2 rfl) ?_
    obtain ⟨r_3, hc, hf⟩ := ob1_some hf
    refine g_SZ (As := [.int x2]) (rest := []) (ws' := (w_X9_avoidChance kc a0 a1 a2 a3 a4 a5 a6 a7 a8 a9 a10 a11 a12 a13 a14 a15 a16 a17 a18 a19 a20 a21 a22 a23 a24 a25 a26 a27 a28 0 loftSize startWind seed draftLoft draftStart draftSeed length textSize start next_ token value error errorAt number undos winds now chance turns turnFrom turnWeight chanceNext turnTo)) ⟨hx, hb, hml, hown, hts⟩ hN hK hP hD hS hA (c_X9_areDays l D kc N x2 r_3 hc) (va_cwS 1 hts gX9_avoidChance_X9_areDays rfl rfl rfl (by decide +kernel) ⟨Nat.le_of_ble_eq_true rfl, Nat.le_of_ble_eq_true rfl⟩) [] [0, 1, 2, 3, 4, 5, 6, 7, 8] [0, 1, 2, 3, 4, 5, 6, 7, 8] (by exact ⟨rfl, rfl, by decide, rfl⟩) rfl hl.1 rfl (Nat.le_of_ble_eq_true rfl) dX9_avoidChance_14 ⟨Nat.le_refl _, Nat.le_refl _⟩ (fun H locs hz hP hD hS => ?_)
    have hz_4 := hz
    refine lv_if_ne (tgt := 24) hx hb dX9_avoidChance_17 (by decide) (fun hc => ?_) (fun hc => ?_)
    · have hf := o_f hc hf
      refine lv_aload_n hx hb dX9_avoidChance_24 rfl (lv_at hl 0 rfl) ?_
      refine lv_iload_n hx hb dX9_avoidChance_25 rfl (lv_at hl 2 rfl) ?_
      refine lv_iload_n hx hb dX9_avoidChance_26 rfl (lv_at hl 1 rfl) ?_
      obtain ⟨chance_5, chanceNext_6, hc, hf⟩ := ob2_some hf
      refine g_VV (As := [.int x2, .int x1]) (rest := []) (ws' := (w_X9_avoidChance kc a0 a1 a2 a3 a4 a5 a6 a7 a8 a9 a10 a11 a12 a13 a14 a15 a16 a17 a18 a19 a20 a21 a22 a23 a24 a25 a26 a27 a28 0 loftSize startWind seed draftLoft draftStart draftSeed length textSize start next_ token value error errorAt number undos winds now chance_5 turns turnFrom turnWeight chanceNext_6 turnTo)) ⟨hx, hb, hml, hown, hts⟩ hN hK hP hD hS hA (c_X9_goesOn l D kc N a0 a1 a2 a3 a4 a5 a6 a7 a8 a9 a10 a11 a12 a13 a14 a15 a16 a17 a18 a19 a20 a21 a22 a23 a24 a25 a26 a27 a28 0 loftSize startWind seed draftLoft draftStart draftSeed length textSize start next_ token value error errorAt number undos now chance turns turnFrom turnWeight chanceNext turnTo x2 x1 chance_5 chanceNext_6 hc) (cwV 2 hts gX9_avoidChance_X9_goesOn rfl rfl rfl (by decide +kernel) ⟨Nat.le_of_ble_eq_true rfl, Nat.le_of_ble_eq_true rfl⟩) [0, 2, 3, 4, 5, 6, 7, 8] [1] [1, 0, 2, 3, 4, 5, 6, 7, 8] (by exact ⟨rfl, rfl, by decide, rfl⟩) 0 9 rfl rfl rfl rfl hl.1 rfl (Nat.le_of_ble_eq_true rfl) dX9_avoidChance_27 ⟨Nat.le_refl _, Nat.le_refl _⟩ (fun H locs hP hD hS => ?_)
      refine lv_lconst (v := 0) hx hb dX9_avoidChance_30 (by decide) ?_
      refine lv_lstore_n (lv' := [(3, .long 0), (0, .ref a0), (1, .int x1), (2, .int x2)]) hx hb dX9_avoidChance_31 rfl hl (by decide) rfl (fun ls hl => ?_)
      refine lv_iconst (v := 0) hx hb dX9_avoidChance_32 (by decide) ?_
      refine lv_istore (lv' := [(5, .int 0), (3, .long 0), (0, .ref a0), (1, .int x1), (2, .int x2)]) hx hb dX9_avoidChance_33 hl (by decide) rfl (fun ls hl => ?_)
      have L35 : ∀ (thrown_f35 : Int32) (n : Nat) (y5_35 : Int32) (y3_35 : Int64) (y5_35o : Int32) (y3_35o : Int64), f_X9_avoidChance_35 N chance_5 n y5_35 y3_35 = some (y5_35o, y3_35o) → (∀ (H : Heap) (locs : List Loc) (ls : Array Slot), va_P D vwCl (w_X9_avoidChance kc a0 a1 a2 a3 a4 a5 a6 a7 a8 a9 a10 a11 a12 a13 a14 a15 a16 a17 a18 a19 a20 a21 a22 a23 a24 a25 a26 a27 a28 thrown_f35 loftSize startWind seed draftLoft draftStart draftSeed length textSize start next_ token value error errorAt number undos winds now chance_5 turns turnFrom turnWeight chanceNext_6 turnTo) H → va_D A (w_X9_avoidChance kc a0 a1 a2 a3 a4 a5 a6 a7 a8 a9 a10 a11 a12 a13 a14 a15 a16 a17 a18 a19 a20 a21 a22 a23 a24 a25 a26 a27 a28 thrown_f35 loftSize startWind seed draftLoft draftStart draftSeed length textSize start next_ token value error errorAt number undos winds now chance_5 turns turnFrom turnWeight chanceNext_6 turnTo) → va_S A s.heap H locs → lv_has ls 6 [(0, .ref a0), (1, .int x1), (2, .int x2), (3, .long y3_35o), (5, .int y5_35o)] → W p l e ({ frames := 2, cells := 0, slots := 0, locals := 47 }) s m (([.ref a0, .int x1, .int x2] : List Value).toArray) below meth c H locs 0 0 Q (F0 m 58 ls [])) → ∀ (H : Heap) (locs : List Loc) (ls : Array Slot), va_P D vwCl (w_X9_avoidChance kc a0 a1 a2 a3 a4 a5 a6 a7 a8 a9 a10 a11 a12 a13 a14 a15 a16 a17 a18 a19 a20 a21 a22 a23 a24 a25 a26 a27 a28 thrown_f35 loftSize startWind seed draftLoft draftStart draftSeed length textSize start next_ token value error errorAt number undos winds now chance_5 turns turnFrom turnWeight chanceNext_6 turnTo) H → va_D A (w_X9_avoidChance kc a0 a1 a2 a3 a4 a5 a6 a7 a8 a9 a10 a11 a12 a13 a14 a15 a16 a17 a18 a19 a20 a21 a22 a23 a24 a25 a26 a27 a28 thrown_f35 loftSize startWind seed draftLoft draftStart draftSeed length textSize start next_ token value error errorAt number undos winds now chance_5 turns turnFrom turnWeight chanceNext_6 turnTo) → va_S A s.heap H locs → lv_has ls 6 [(0, .ref a0), (1, .int x1), (2, .int x2), (3, .long y3_35), (5, .int y5_35)] → W p l e ({ frames := 2, cells := 0, slots := 0, locals := 47 }) s m (([.ref a0, .int x1, .int x2] : List Value).toArray) below meth c H locs 0 0 Q (F0 m 35 ls []) := by
        intro thrown_f35 n
        induction n with
        | zero => intro _ _ _ _ hf; rw [f_X9_avoidChance_35.eq_1] at hf; cases hf
        | succ n ih =>
          intro y5_35 y3_35 y5_35o y3_35o hf hk H locs ls hP hD hS hl
          rw [f_X9_avoidChance_35.eq_2] at hf
          refine lv_iload hx hb dX9_avoidChance_35 (lv_at hl 4 rfl) ?_
          refine lv_bipush (v := 6) hx hb dX9_avoidChance_37 (by decide) ?_
          refine lv_icmp_ge (tgt := 58) hx hb dX9_avoidChance_39 (by decide) (fun hc => ?_) (fun hc => ?_)
          · have hf := o_t hc hf
            cases hf
            exact hk _ _ _ hP hD hS (lv_sub hl [0, 1, 2, 3, 4] rfl)
          · have hf := o_f hc hf
            refine lv_lload_n hx hb dX9_avoidChance_42 rfl (lv_at hl 3 rfl) ?_
            refine lv_aload_n hx hb dX9_avoidChance_43 rfl (lv_at hl 0 rfl) ?_
            refine va_get (D := D) (ci := 9) (v := .ref a21) (C := RX9) (T := TX9) (N := 45) hx hb hts in_X9 hown hK hP 0 rfl rfl 36 (by decide) lk_78 (fun _ h9 => h9) rfl dX9_avoidChance_44 ?_
            refine lv_iload hx hb dX9_avoidChance_47 (lv_at hl 4 rfl) ?_
            obtain ⟨hi, hf⟩ := gIx_some hf
            refine va_lald hx hb hK hP 3 2 rfl rfl hi dX9_avoidChance_49 ?_
            refine lv_ladd hx hb dX9_avoidChance_50 ?_
            refine lv_lstore_n (lv' := [(3, .long (y3_35 + (chance_5 (y5_35 : Int32).toNatClampNeg))), (0, .ref a0), (1, .int x1), (2, .int x2), (5, .int y5_35)]) hx hb dX9_avoidChance_51 rfl hl (by decide) rfl (fun ls hl => ?_)
            refine lv_iinc (v := (y5_35 + 1)) (lv' := [(5, .int (y5_35 + 1)), (3, .long (y3_35 + (chance_5 (y5_35 : Int32).toNatClampNeg))), (0, .ref a0), (1, .int x1), (2, .int x2)]) hx hb dX9_avoidChance_52 hl (k := 4) rfl (by rfl) (by decide) rfl (fun ls hl => ?_)
            refine lv_goto (tgt := 35) hx hb dX9_avoidChance_55 (by decide) ?_
            exact ih _ _ _ _ hf hk _ _ _ hP hD hS (lv_sub hl [2, 3, 4, 1, 0] rfl)
      obtain ⟨y5_35o, y3_35o, hc, hf⟩ := ob2_some hf
      refine L35 0 N _ _ _ _ hc (fun H locs ls hP hD hS hl => ?_) _ _ _ hP hD hS (lv_sub hl [2, 3, 4, 1, 0] rfl)
      refine lv_lload_n hx hb dX9_avoidChance_58 rfl (lv_at hl 3 rfl) ?_
      cases hf
      exact kR _ _ _ _ hP hD hS dX9_avoidChance_59
    · have hf := o_t hc hf
      refine lv_ldc2 (v := (-1)) hx hb hown (hts (.constantLong RX9 261 (-1)) (by decide +kernel)) dX9_avoidChance_20 ?_
      cases hf
      exact kR _ _ _ _ hP hD hS dX9_avoidChance_23
abbrev w_X9_weightBy (kc : Nat → ClassId) (a0 a1 a2 a3 a4 a5 a6 a7 a8 a9 a10 a11 a12 a13 a14 a15 a16 a17 a18 a19 a20 a21 a22 a23 a24 a25 a26 a27 a28 : Nat) (thrown : Int32) (loftSize : Int32) (startWind : Int32) (seed : Int32) (draftLoft : Int32) (draftStart : Int32) (draftSeed : Int32) (length : Int32) (textSize : Int32) (start : Int32) (next_ : Int32) (token : Int32) (value : Int32) (error : Int32) (errorAt : Int32) (number : Int32) (undos : Int32) (named : Nat → Int32) (namedWeight : Nat → Int32) (namedRegion : Nat → Int32) : va_W := [(a0, .inr (9, [.int thrown, .ref a1, .ref a2, .ref a3, .ref a4, .ref a5, .ref a6, .ref a7, .ref a8, .ref a9, .ref a10, .ref a11, .ref a12, .ref a13, .ref a14, .ref a15, .ref a16, .ref a17, .ref a18, .ref a19, .int loftSize, .int startWind, .int seed, .int draftLoft, .int draftStart, .int draftSeed, .ref a20, .int length, .int textSize, .int start, .int next_, .int token, .int value, .int error, .int errorAt, .int number, .ref a21, .ref a22, .ref a23, .ref a24, .ref a25, .int undos, .ref a26, .ref a27, .ref a28])), (a7, .inl (kc 1, 12, .inl named)), (a9, .inl (kc 1, 96, .inl namedWeight)), (a8, .inl (kc 1, 96, .inl namedRegion))]
set_option maxHeartbeats 4000000 in
set_option maxRecDepth 100000 in
theorem c_X9_weightBy (l : Launch) (D : va_G) (kc : Nat → ClassId) (N : Nat) (a0 a1 a2 a3 a4 a5 a6 a7 a8 a9 a10 a11 a12 a13 a14 a15 a16 a17 a18 a19 a20 a21 a22 a23 a24 a25 a26 a27 a28 : Nat) (thrown : Int32) (loftSize : Int32) (startWind : Int32) (seed : Int32) (draftLoft : Int32) (draftStart : Int32) (draftSeed : Int32) (length : Int32) (textSize : Int32) (start : Int32) (next_ : Int32) (token : Int32) (value : Int32) (error : Int32) (errorAt : Int32) (number : Int32) (undos : Int32) (named : Nat → Int32) (namedWeight : Nat → Int32) (namedRegion : Nat → Int32) (x1 : Int32) (x2 : Int32) (r_ : Int32) (hf : f_X9_weightBy N named namedWeight namedRegion x1 x2 = some r_) : MI l yX9_weightBy wsX9_weightBy ({ frames := 0, cells := 0, slots := 0, locals := 0 }) D kc [.ref a0, .int x1, .int x2] (w_X9_weightBy kc a0 a1 a2 a3 a4 a5 a6 a7 a8 a9 a10 a11 a12 a13 a14 a15 a16 a17 a18 a19 a20 a21 a22 a23 a24 a25 a26 a27 a28 thrown loftSize startWind seed draftLoft draftStart draftSeed length textSize start next_ token value error errorAt number undos named namedWeight namedRegion) (w_X9_weightBy kc a0 a1 a2 a3 a4 a5 a6 a7 a8 a9 a10 a11 a12 a13 a14 a15 a16 a17 a18 a19 a20 a21 a22 a23 a24 a25 a26 a27 a28 thrown loftSize startWind seed draftLoft draftStart draftSeed length textSize start next_ token value error errorAt number undos named namedWeight namedRegion) r_ := by
  refine gM_I (cc := cX9_weightBy) (maxL := 6) (by decide) rfl (Nat.le_of_ble_eq_true rfl) ?_
  intro p e s m below meth c A ls Q hx hb hml hown hts hN hK hP hD hA hl kR
  have hS : va_S A s.heap s.heap [] := va_S.rf
  have hl : lv_has ls 6 [(0, .ref a0), (1, .int x1), (2, .int x2)] := hl
  have in_X9 : ∀ w ∈ u_ws RX9 TX9 45, w ∈ wsX9_weightBy := by decide +kernel
  have lk_32 := hts (.fieldLink RX9 32 "BalloonMailModel" "named" "[I") (by decide +kernel)
  have lk_38 := hts (.fieldLink RX9 38 "BalloonMailModel" "namedWeight" "[I") (by decide +kernel)
  have lk_35 := hts (.fieldLink RX9 35 "BalloonMailModel" "namedRegion" "[I") (by decide +kernel)
  unfold f_X9_weightBy at hf
  refine lv_iconst (v := 0) hx hb dX9_weightBy_0 (by decide) ?_
  refine lv_istore_n (lv' := [(3, .int 0), (0, .ref a0), (1, .int x1), (2, .int x2)]) hx hb dX9_weightBy_1 rfl hl (by decide) rfl (fun ls hl => ?_)
  refine lv_iconst (v := 0) hx hb dX9_weightBy_2 (by decide) ?_
  refine lv_istore (lv' := [(4, .int 0), (3, .int 0), (0, .ref a0), (1, .int x1), (2, .int x2)]) hx hb dX9_weightBy_3 hl (by decide) rfl (fun ls hl => ?_)
  refine lv_iconst (v := 0) hx hb dX9_weightBy_5 (by decide) ?_
  refine lv_istore (lv' := [(5, .int 0), (4, .int 0), (3, .int 0), (0, .ref a0), (1, .int x1), (2, .int x2)]) hx hb dX9_weightBy_6 hl (by decide) rfl (fun ls hl => ?_)
  have L8 : ∀ (n : Nat) (y5_8 : Int32) (y4_8 : Int32) (y3_8 : Int32) (y5_8o : Int32) (y4_8o : Int32) (y3_8o : Int32), f_X9_weightBy_8 N named namedWeight namedRegion x1 x2 n y5_8 y4_8 y3_8 = some (y5_8o, y4_8o, y3_8o) → (∀ (H : Heap) (locs : List Loc) (ls : Array Slot), va_P D vwCl (w_X9_weightBy kc a0 a1 a2 a3 a4 a5 a6 a7 a8 a9 a10 a11 a12 a13 a14 a15 a16 a17 a18 a19 a20 a21 a22 a23 a24 a25 a26 a27 a28 thrown loftSize startWind seed draftLoft draftStart draftSeed length textSize start next_ token value error errorAt number undos named namedWeight namedRegion) H → va_D A (w_X9_weightBy kc a0 a1 a2 a3 a4 a5 a6 a7 a8 a9 a10 a11 a12 a13 a14 a15 a16 a17 a18 a19 a20 a21 a22 a23 a24 a25 a26 a27 a28 thrown loftSize startWind seed draftLoft draftStart draftSeed length textSize start next_ token value error errorAt number undos named namedWeight namedRegion) → va_S A s.heap H locs → lv_has ls 6 [(0, .ref a0), (1, .int x1), (2, .int x2), (3, .int y3_8o), (4, .int y4_8o), (5, .int y5_8o)] → W p l e ({ frames := 0, cells := 0, slots := 0, locals := 0 }) s m (([.ref a0, .int x1, .int x2] : List Value).toArray) below meth c H locs 0 0 Q (F0 m 75 ls [])) → ∀ (H : Heap) (locs : List Loc) (ls : Array Slot), va_P D vwCl (w_X9_weightBy kc a0 a1 a2 a3 a4 a5 a6 a7 a8 a9 a10 a11 a12 a13 a14 a15 a16 a17 a18 a19 a20 a21 a22 a23 a24 a25 a26 a27 a28 thrown loftSize startWind seed draftLoft draftStart draftSeed length textSize start next_ token value error errorAt number undos named namedWeight namedRegion) H → va_D A (w_X9_weightBy kc a0 a1 a2 a3 a4 a5 a6 a7 a8 a9 a10 a11 a12 a13 a14 a15 a16 a17 a18 a19 a20 a21 a22 a23 a24 a25 a26 a27 a28 thrown loftSize startWind seed draftLoft draftStart draftSeed length textSize start next_ token value error errorAt number undos named namedWeight namedRegion) → va_S A s.heap H locs → lv_has ls 6 [(0, .ref a0), (1, .int x1), (2, .int x2), (3, .int y3_8), (4, .int y4_8), (5, .int y5_8)] → W p l e ({ frames := 0, cells := 0, slots := 0, locals := 0 }) s m (([.ref a0, .int x1, .int x2] : List Value).toArray) below meth c H locs 0 0 Q (F0 m 8 ls []) := by
    intro n
    induction n with
    | zero => intro _ _ _ _ _ _ hf; rw [f_X9_weightBy_8.eq_1] at hf; cases hf
    | succ n ih =>
      intro y5_8 y4_8 y3_8 y5_8o y4_8o y3_8o hf hk H locs ls hP hD hS hl
      rw [f_X9_weightBy_8.eq_2] at hf
      refine lv_iload hx hb dX9_weightBy_8 (lv_at hl 5 rfl) ?_
      refine lv_aload_n hx hb dX9_weightBy_10 rfl (lv_at hl 0 rfl) ?_
      refine va_get (D := D) (ci := 9) (v := .ref a7) (C := RX9) (T := TX9) (N := 45) hx hb hts in_X9 hown hK hP 0 rfl rfl 7 (by decide) lk_32 (fun _ h9 => h9) rfl dX9_weightBy_11 ?_
      refine lv_iload_n hx hb dX9_weightBy_14 rfl (lv_at hl 1 rfl) ?_
      obtain ⟨hi, hf⟩ := gIx_some hf
      refine va_iald hx hb hK hP 1 1 rfl rfl hi dX9_weightBy_15 ?_
      refine lv_icmp_ge (tgt := 75) hx hb dX9_weightBy_16 (by decide) (fun hc => ?_) (fun hc => ?_)
      · have hf := o_t hc hf
        cases hf
        exact hk _ _ _ hP hD hS (lv_sub hl [0, 1, 2, 3, 4, 5] rfl)
      · have hf := o_f hc hf
        refine lv_iload_n hx hb dX9_weightBy_19 rfl (lv_at hl 3 rfl) ?_
        refine lv_aload_n hx hb dX9_weightBy_20 rfl (lv_at hl 0 rfl) ?_
        refine va_get (D := D) (ci := 9) (v := .ref a9) (C := RX9) (T := TX9) (N := 45) hx hb hts in_X9 hown hK hP 0 rfl rfl 9 (by decide) lk_38 (fun _ h9 => h9) rfl dX9_weightBy_21 ?_
        refine lv_bipush (v := 8) hx hb dX9_weightBy_24 (by decide) ?_
        refine lv_iload_n hx hb dX9_weightBy_26 rfl (lv_at hl 1 rfl) ?_
        refine lv_imul hx hb dX9_weightBy_27 ?_
        refine lv_iload hx hb dX9_weightBy_28 (lv_at hl 5 rfl) ?_
        refine lv_iadd hx hb dX9_weightBy_30 ?_
        obtain ⟨hi, hf⟩ := gIx_some hf
        refine va_iald hx hb hK hP 2 1 rfl rfl hi dX9_weightBy_31 ?_
        refine lv_iadd hx hb dX9_weightBy_32 ?_
        refine lv_istore_n (lv' := [(3, .int (y3_8 + (namedWeight (((8 * x1) + y5_8) : Int32).toNatClampNeg))), (0, .ref a0), (1, .int x1), (2, .int x2), (4, .int y4_8), (5, .int y5_8)]) hx hb dX9_weightBy_33 rfl hl (by decide) rfl (fun ls hl => ?_)
        refine lv_aload_n hx hb dX9_weightBy_34 rfl (lv_at hl 1 rfl) ?_
        refine va_get (D := D) (ci := 9) (v := .ref a8) (C := RX9) (T := TX9) (N := 45) hx hb hts in_X9 hown hK hP 0 rfl rfl 8 (by decide) lk_35 (fun _ h9 => h9) rfl dX9_weightBy_35 ?_
        refine lv_bipush (v := 8) hx hb dX9_weightBy_38 (by decide) ?_
        refine lv_iload_n hx hb dX9_weightBy_40 rfl (lv_at hl 2 rfl) ?_
        refine lv_imul hx hb dX9_weightBy_41 ?_
        refine lv_iload hx hb dX9_weightBy_42 (lv_at hl 5 rfl) ?_
        refine lv_iadd hx hb dX9_weightBy_44 ?_
        obtain ⟨hi, hf⟩ := gIx_some hf
        refine va_iald hx hb hK hP 3 1 rfl rfl hi dX9_weightBy_45 ?_
        refine lv_iload_n hx hb dX9_weightBy_46 rfl (lv_at hl 3 rfl) ?_
        refine lv_icmp_ne (tgt := 65) hx hb dX9_weightBy_47 (by decide) (fun hc => ?_) (fun hc => ?_)
        · have hf := o_f hc hf
          refine lv_iload hx hb dX9_weightBy_65 (lv_at hl 4 rfl) ?_
          refine lv_istore (lv' := [(4, .int y4_8), (3, .int (y3_8 + (namedWeight (((8 * x1) + y5_8) : Int32).toNatClampNeg))), (0, .ref a0), (1, .int x1), (2, .int x2), (5, .int y5_8)]) hx hb dX9_weightBy_67 hl (by decide) rfl (fun ls hl => ?_)
          refine lv_iinc (v := (y5_8 + 1)) (lv' := [(5, .int (y5_8 + 1)), (4, .int y4_8), (3, .int (y3_8 + (namedWeight (((8 * x1) + y5_8) : Int32).toNatClampNeg))), (0, .ref a0), (1, .int x1), (2, .int x2)]) hx hb dX9_weightBy_69 hl (k := 5) rfl (by rfl) (by decide) rfl (fun ls hl => ?_)
          refine lv_goto (tgt := 8) hx hb dX9_weightBy_72 (by decide) ?_
          exact ih _ _ _ _ _ _ hf hk _ _ _ hP hD hS (lv_sub hl [3, 4, 5, 2, 1, 0] rfl)
        · have hf := o_t hc hf
          refine lv_aload_n hx hb dX9_weightBy_50 rfl (lv_at hl 1 rfl) ?_
          refine va_get (D := D) (ci := 9) (v := .ref a9) (C := RX9) (T := TX9) (N := 45) hx hb hts in_X9 hown hK hP 0 rfl rfl 9 (by decide) lk_38 (fun _ h9 => h9) rfl dX9_weightBy_51 ?_
          refine lv_bipush (v := 8) hx hb dX9_weightBy_54 (by decide) ?_
          refine lv_iload_n hx hb dX9_weightBy_56 rfl (lv_at hl 2 rfl) ?_
          refine lv_imul hx hb dX9_weightBy_57 ?_
          refine lv_iload hx hb dX9_weightBy_58 (lv_at hl 5 rfl) ?_
          refine lv_iadd hx hb dX9_weightBy_60 ?_
          obtain ⟨hi, hf⟩ := gIx_some hf
          refine va_iald hx hb hK hP 2 1 rfl rfl hi dX9_weightBy_61 ?_
          refine lv_goto (tgt := 67) hx hb dX9_weightBy_62 (by decide) ?_
          refine lv_istore (lv' := [(4, .int (namedWeight (((8 * x1) + y5_8) : Int32).toNatClampNeg)), (3, .int (y3_8 + (namedWeight (((8 * x1) + y5_8) : Int32).toNatClampNeg))), (0, .ref a0), (1, .int x1), (2, .int x2), (5, .int y5_8)]) hx hb dX9_weightBy_67 hl (by decide) rfl (fun ls hl => ?_)
          refine lv_iinc (v := (y5_8 + 1)) (lv' := [(5, .int (y5_8 + 1)), (4, .int (namedWeight (((8 * x1) + y5_8) : Int32).toNatClampNeg)), (3, .int (y3_8 + (namedWeight (((8 * x1) + y5_8) : Int32).toNatClampNeg))), (0, .ref a0), (1, .int x1), (2, .int x2)]) hx hb dX9_weightBy_69 hl (k := 5) rfl (by rfl) (by decide) rfl (fun ls hl => ?_)
          refine lv_goto (tgt := 8) hx hb dX9_weightBy_72 (by decide) ?_
          exact ih _ _ _ _ _ _ hf hk _ _ _ hP hD hS (lv_sub hl [3, 4, 5, 2, 1, 0] rfl)
  obtain ⟨y5_8o, y4_8o, y3_8o, hc, hf⟩ := ob3_some hf
  refine L8 N _ _ _ _ _ _ hc (fun H locs ls hP hD hS hl => ?_) _ _ _ hP hD hS (lv_sub hl [3, 4, 5, 2, 1, 0] rfl)
  refine lv_iload_n hx hb dX9_weightBy_75 rfl (lv_at hl 2 rfl) ?_
  refine lv_bipush (v := (-2)) hx hb dX9_weightBy_76 (by decide) ?_
  refine lv_icmp_ne (tgt := 88) hx hb dX9_weightBy_78 (by decide) (fun hc => ?_) (fun hc => ?_)
  · have hf := o_f hc hf
    refine lv_iload hx hb dX9_weightBy_88 (lv_at hl 4 rfl) ?_
    cases hf
    exact kR _ _ _ _ hP hD hS dX9_weightBy_90
  · have hf := o_t hc hf
    refine lv_bipush (v := 10) hx hb dX9_weightBy_81 (by decide) ?_
    refine lv_iload_n hx hb dX9_weightBy_83 rfl (lv_at hl 3 rfl) ?_
    refine lv_isub hx hb dX9_weightBy_84 ?_
    refine lv_goto (tgt := 90) hx hb dX9_weightBy_85 (by decide) ?_
    cases hf
    exact kR _ _ _ _ hP hD hS dX9_weightBy_90
abbrev w_X9_landingChance (kc : Nat → ClassId) (a0 a1 a2 a3 a4 a5 a6 a7 a8 a9 a10 a11 a12 a13 a14 a15 a16 a17 a18 a19 a20 a21 a22 a23 a24 a25 a26 a27 a28 : Nat) (thrown : Int32) (loftSize : Int32) (startWind : Int32) (seed : Int32) (draftLoft : Int32) (draftStart : Int32) (draftSeed : Int32) (length : Int32) (textSize : Int32) (start : Int32) (next_ : Int32) (token : Int32) (value : Int32) (error : Int32) (errorAt : Int32) (number : Int32) (undos : Int32) (regions : Nat → Int32) (winds : Nat → Int32) (now : Nat → Int32) (chance : Nat → Int64) (turns : Nat → Int32) (turnFrom : Nat → Int32) (turnWeight : Nat → Int32) (chanceNext : Nat → Int64) (turnTo : Nat → Int32) (named : Nat → Int32) (namedWeight : Nat → Int32) (namedRegion : Nat → Int32) : va_W := [(a0, .inr (9, [.int thrown, .ref a1, .ref a2, .ref a3, .ref a4, .ref a5, .ref a6, .ref a7, .ref a8, .ref a9, .ref a10, .ref a11, .ref a12, .ref a13, .ref a14, .ref a15, .ref a16, .ref a17, .ref a18, .ref a19, .int loftSize, .int startWind, .int seed, .int draftLoft, .int draftStart, .int draftSeed, .ref a20, .int length, .int textSize, .int start, .int next_, .int token, .int value, .int error, .int errorAt, .int number, .ref a21, .ref a22, .ref a23, .ref a24, .ref a25, .int undos, .ref a26, .ref a27, .ref a28])), (a2, .inl (kc 1, 2, .inl regions)), (a6, .inl (kc 1, 2, .inl winds)), (a1, .inl (kc 1, 213, .inl now)), (a21, .inl (kc 2, 6, .inr (.inl chance))), (a10, .inl (kc 1, 2, .inl turns)), (a11, .inl (kc 1, 60, .inl turnFrom)), (a13, .inl (kc 1, 60, .inl turnWeight)), (a22, .inl (kc 2, 6, .inr (.inl chanceNext))), (a12, .inl (kc 1, 60, .inl turnTo)), (a7, .inl (kc 1, 12, .inl named)), (a9, .inl (kc 1, 96, .inl namedWeight)), (a8, .inl (kc 1, 96, .inl namedRegion))]
set_option maxHeartbeats 4000000 in
set_option maxRecDepth 100000 in
theorem c_X9_landingChance (l : Launch) (D : va_G) (kc : Nat → ClassId) (N : Nat) (a0 a1 a2 a3 a4 a5 a6 a7 a8 a9 a10 a11 a12 a13 a14 a15 a16 a17 a18 a19 a20 a21 a22 a23 a24 a25 a26 a27 a28 : Nat) (thrown : Int32) (loftSize : Int32) (startWind : Int32) (seed : Int32) (draftLoft : Int32) (draftStart : Int32) (draftSeed : Int32) (length : Int32) (textSize : Int32) (start : Int32) (next_ : Int32) (token : Int32) (value : Int32) (error : Int32) (errorAt : Int32) (number : Int32) (undos : Int32) (regions : Nat → Int32) (winds : Nat → Int32) (now : Nat → Int32) (chance : Nat → Int64) (turns : Nat → Int32) (turnFrom : Nat → Int32) (turnWeight : Nat → Int32) (chanceNext : Nat → Int64) (turnTo : Nat → Int32) (named : Nat → Int32) (namedWeight : Nat → Int32) (namedRegion : Nat → Int32) (x1 : Int32) (x2 : Int32) (r_ : Int64) (thrown' : Int32) (chance' : Nat → Int64) (chanceNext' : Nat → Int64) (hf : f_X9_landingChance N regions winds now chance turns turnFrom turnWeight chanceNext turnTo named namedWeight namedRegion x1 x2 = some (r_, thrown', chance', chanceNext')) : ML l yX9_landingChance wsX9_landingChance ({ frames := 2, cells := 0, slots := 0, locals := 47 }) D kc [.ref a0, .int x1, .int x2] (w_X9_landingChance kc a0 a1 a2 a3 a4 a5 a6 a7 a8 a9 a10 a11 a12 a13 a14 a15 a16 a17 a18 a19 a20 a21 a22 a23 a24 a25 a26 a27 a28 thrown loftSize startWind seed draftLoft draftStart draftSeed length textSize start next_ token value error errorAt number undos regions winds now chance turns turnFrom turnWeight chanceNext turnTo named namedWeight namedRegion) (w_X9_landingChance kc a0 a1 a2 a3 a4 a5 a6 a7 a8 a9 a10 a11 a12 a13 a14 a15 a16 a17 a18 a19 a20 a21 a22 a23 a24 a25 a26 a27 a28 thrown' loftSize startWind seed draftLoft draftStart draftSeed length textSize start next_ token value error errorAt number undos regions winds now chance' turns turnFrom turnWeight chanceNext' turnTo named namedWeight namedRegion) r_ := by
  refine gM_L (cc := cX9_landingChance) (maxL := 6) (by decide) rfl (Nat.le_of_ble_eq_true rfl) ?_
  intro p e s m below meth c A ls Q hx hb hml hown hts hN hK hP hD hA hl kR
  have hS : va_S A s.heap s.heap [] := va_S.rf
  have hl : lv_has ls 6 [(0, .ref a0), (1, .int x1), (2, .int x2)] := hl
  have in_X9 : ∀ w ∈ u_ws RX9 TX9 45, w ∈ wsX9_landingChance := by decide +kernel
  have lk_1 := hts (.fieldLink RX9 1 "BalloonMailModel" "thrown" "I") (by decide +kernel)
  have lk_29 := hts (.fieldLink RX9 29 "BalloonMailModel" "winds" "[I") (by decide +kernel)
  have lk_78 := hts (.fieldLink RX9 78 "BalloonMailModel" "chance" "[J") (by decide +kernel)
  have lk_17 := hts (.fieldLink RX9 17 "BalloonMailModel" "regions" "[I") (by decide +kernel)
  have J27 : ∀ (thrown_27 : Int32), f_X9_landingChance_j27 N winds now chance turns turnFrom turnWeight chanceNext turnTo named namedWeight namedRegion x1 x2 thrown_27 = some (r_, thrown', chance', chanceNext') → ∀ (H : Heap) (locs : List Loc) (ls : Array Slot), va_P D vwCl (w_X9_landingChance kc a0 a1 a2 a3 a4 a5 a6 a7 a8 a9 a10 a11 a12 a13 a14 a15 a16 a17 a18 a19 a20 a21 a22 a23 a24 a25 a26 a27 a28 thrown_27 loftSize startWind seed draftLoft draftStart draftSeed length textSize start next_ token value error errorAt number undos regions winds now chance turns turnFrom turnWeight chanceNext turnTo named namedWeight namedRegion) H → va_D A (w_X9_landingChance kc a0 a1 a2 a3 a4 a5 a6 a7 a8 a9 a10 a11 a12 a13 a14 a15 a16 a17 a18 a19 a20 a21 a22 a23 a24 a25 a26 a27 a28 thrown_27 loftSize startWind seed draftLoft draftStart draftSeed length textSize start next_ token value error errorAt number undos regions winds now chance turns turnFrom turnWeight chanceNext turnTo named namedWeight namedRegion) → va_S A s.heap H locs → lv_has ls 6 [(0, .ref a0), (1, .int x1), (2, .int x2)] → W p l e ({ frames := 2, cells := 0, slots := 0, locals := 47 }) s m (([.ref a0, .int x1, .int x2] : List Value).toArray) below meth c H locs 0 0 Q (F0 m 27 ls []) := by
    clear hf
    intro thrown_27 hf H locs ls hP hD hS hl
    unfold f_X9_landingChance_j27 at hf
    refine lv_iload_n hx hb dX9_landingChance_27 rfl (lv_at hl 2 rfl) ?_
    obtain ⟨r_1, hc, hf⟩ := ob1_some hf
    refine g_SZ (As := [.int x2]) (rest := []) (ws' := (w_X9_landingChance kc a0 a1 a2 a3 a4 a5 a6 a7 a8 a9 a10 a11 a12 a13 a14 a15 a16 a17 a18 a19 a20 a21 a22 a23 a24 a25 a26 a27 a28 thrown_27 loftSize startWind seed draftLoft draftStart draftSeed length textSize start next_ token value error errorAt number undos regions winds now chance turns turnFrom turnWeight chanceNext turnTo named namedWeight namedRegion)) ⟨hx, hb, hml, hown, hts⟩ hN hK hP hD hS hA (c_X9_areDays l D kc N x2 r_1 hc) (va_cwS 1 hts gX9_landingChance_X9_areDays rfl rfl rfl (by decide +kernel) ⟨Nat.le_of_ble_eq_true rfl, Nat.le_of_ble_eq_true rfl⟩) [] [0, 1, 2, 3, 4, 5, 6, 7, 8, 9, 10, 11, 12] [0, 1, 2, 3, 4, 5, 6, 7, 8, 9, 10, 11, 12] (by exact ⟨rfl, rfl, by decide, rfl⟩) rfl hl.1 rfl (Nat.le_of_ble_eq_true rfl) dX9_landingChance_28 ⟨Nat.le_refl _, Nat.le_refl _⟩ (fun H locs hz hP hD hS => ?_)
    have hz_2 := hz
    refine lv_if_eq (tgt := 43) hx hb dX9_landingChance_31 (by decide) (fun hc => ?_) (fun hc => ?_)
    · have hf := o_t hc hf
      refine lv_ldc2 (v := (-1)) hx hb hown (hts (.constantLong RX9 261 (-1)) (by decide +kernel)) dX9_landingChance_43 ?_
      cases hf
      exact kR _ _ _ _ hP hD hS dX9_landingChance_46
    · have hf := o_f hc hf
      refine lv_aload_n hx hb dX9_landingChance_34 rfl (lv_at hl 0 rfl) ?_
      refine va_get (D := D) (ci := 9) (v := .ref a6) (C := RX9) (T := TX9) (N := 45) hx hb hts in_X9 hown hK hP 0 rfl rfl 6 (by decide) lk_29 (fun _ h9 => h9) rfl dX9_landingChance_35 ?_
      refine lv_iconst (v := 0) hx hb dX9_landingChance_38 (by decide) ?_
      obtain ⟨hi, hf⟩ := gIx_some hf
      refine va_iald hx hb hK hP 2 1 rfl rfl hi dX9_landingChance_39 ?_
      refine lv_if_ne (tgt := 47) hx hb dX9_landingChance_40 (by decide) (fun hc => ?_) (fun hc => ?_)
      · have hf := o_f hc hf
        refine lv_aload_n hx hb dX9_landingChance_47 rfl (lv_at hl 0 rfl) ?_
        refine lv_iload_n hx hb dX9_landingChance_48 rfl (lv_at hl 2 rfl) ?_
        refine lv_bipush (v := (-2)) hx hb dX9_landingChance_49 (by decide) ?_
        obtain ⟨chance_3, chanceNext_4, hc, hf⟩ := ob2_some hf
        refine g_VV (As := [.int x2, .int (-2)]) (rest := []) (ws' := (w_X9_landingChance kc a0 a1 a2 a3 a4 a5 a6 a7 a8 a9 a10 a11 a12 a13 a14 a15 a16 a17 a18 a19 a20 a21 a22 a23 a24 a25 a26 a27 a28 thrown_27 loftSize startWind seed draftLoft draftStart draftSeed length textSize start next_ token value error errorAt number undos regions winds now chance_3 turns turnFrom turnWeight chanceNext_4 turnTo named namedWeight namedRegion)) ⟨hx, hb, hml, hown, hts⟩ hN hK hP hD hS hA (c_X9_goesOn l D kc N a0 a1 a2 a3 a4 a5 a6 a7 a8 a9 a10 a11 a12 a13 a14 a15 a16 a17 a18 a19 a20 a21 a22 a23 a24 a25 a26 a27 a28 thrown_27 loftSize startWind seed draftLoft draftStart draftSeed length textSize start next_ token value error errorAt number undos now chance turns turnFrom turnWeight chanceNext turnTo x2 (-2) chance_3 chanceNext_4 hc) (cwV 2 hts gX9_landingChance_X9_goesOn rfl rfl rfl (by decide +kernel) ⟨Nat.le_of_ble_eq_true rfl, Nat.le_of_ble_eq_true rfl⟩) [0, 3, 4, 5, 6, 7, 8, 9] [1, 2, 10, 11, 12] [5, 0, 1, 6, 7, 8, 9, 10, 11, 12, 2, 3, 4] (by exact ⟨rfl, rfl, by decide, rfl⟩) 0 9 rfl rfl rfl rfl hl.1 rfl (Nat.le_of_ble_eq_true rfl) dX9_landingChance_51 ⟨Nat.le_refl _, Nat.le_refl _⟩ (fun H locs hP hD hS => ?_)
        refine lv_lconst (v := 0) hx hb dX9_landingChance_54 (by decide) ?_
        refine lv_lstore_n (lv' := [(3, .long 0), (0, .ref a0), (1, .int x1), (2, .int x2)]) hx hb dX9_landingChance_55 rfl hl (by decide) rfl (fun ls hl => ?_)
        refine lv_iconst (v := 0) hx hb dX9_landingChance_56 (by decide) ?_
        refine lv_istore (lv' := [(5, .int 0), (3, .long 0), (0, .ref a0), (1, .int x1), (2, .int x2)]) hx hb dX9_landingChance_57 hl (by decide) rfl (fun ls hl => ?_)
        have L59 : ∀ (n : Nat) (y5_59 : Int32) (y3_59 : Int64) (y5_59o : Int32) (y3_59o : Int64), f_X9_landingChance_59 N winds named namedWeight namedRegion x1 chance_3 n y5_59 y3_59 = some (y5_59o, y3_59o) → (∀ (H : Heap) (locs : List Loc) (ls : Array Slot), va_P D vwCl (w_X9_landingChance kc a0 a1 a2 a3 a4 a5 a6 a7 a8 a9 a10 a11 a12 a13 a14 a15 a16 a17 a18 a19 a20 a21 a22 a23 a24 a25 a26 a27 a28 thrown_27 loftSize startWind seed draftLoft draftStart draftSeed length textSize start next_ token value error errorAt number undos regions winds now chance_3 turns turnFrom turnWeight chanceNext_4 turnTo named namedWeight namedRegion) H → va_D A (w_X9_landingChance kc a0 a1 a2 a3 a4 a5 a6 a7 a8 a9 a10 a11 a12 a13 a14 a15 a16 a17 a18 a19 a20 a21 a22 a23 a24 a25 a26 a27 a28 thrown_27 loftSize startWind seed draftLoft draftStart draftSeed length textSize start next_ token value error errorAt number undos regions winds now chance_3 turns turnFrom turnWeight chanceNext_4 turnTo named namedWeight namedRegion) → va_S A s.heap H locs → lv_has ls 6 [(0, .ref a0), (1, .int x1), (2, .int x2), (3, .long y3_59o), (5, .int y5_59o)] → W p l e ({ frames := 2, cells := 0, slots := 0, locals := 47 }) s m (([.ref a0, .int x1, .int x2] : List Value).toArray) below meth c H locs 0 0 Q (F0 m 95 ls [])) → ∀ (H : Heap) (locs : List Loc) (ls : Array Slot), va_P D vwCl (w_X9_landingChance kc a0 a1 a2 a3 a4 a5 a6 a7 a8 a9 a10 a11 a12 a13 a14 a15 a16 a17 a18 a19 a20 a21 a22 a23 a24 a25 a26 a27 a28 thrown_27 loftSize startWind seed draftLoft draftStart draftSeed length textSize start next_ token value error errorAt number undos regions winds now chance_3 turns turnFrom turnWeight chanceNext_4 turnTo named namedWeight namedRegion) H → va_D A (w_X9_landingChance kc a0 a1 a2 a3 a4 a5 a6 a7 a8 a9 a10 a11 a12 a13 a14 a15 a16 a17 a18 a19 a20 a21 a22 a23 a24 a25 a26 a27 a28 thrown_27 loftSize startWind seed draftLoft draftStart draftSeed length textSize start next_ token value error errorAt number undos regions winds now chance_3 turns turnFrom turnWeight chanceNext_4 turnTo named namedWeight namedRegion) → va_S A s.heap H locs → lv_has ls 6 [(0, .ref a0), (1, .int x1), (2, .int x2), (3, .long y3_59), (5, .int y5_59)] → W p l e ({ frames := 2, cells := 0, slots := 0, locals := 47 }) s m (([.ref a0, .int x1, .int x2] : List Value).toArray) below meth c H locs 0 0 Q (F0 m 59 ls []) := by
          intro n
          induction n with
          | zero => intro _ _ _ _ hf; rw [f_X9_landingChance_59.eq_1] at hf; cases hf
          | succ n ih =>
            intro y5_59 y3_59 y5_59o y3_59o hf hk H locs ls hP hD hS hl
            rw [f_X9_landingChance_59.eq_2] at hf
            refine lv_iload hx hb dX9_landingChance_59 (lv_at hl 4 rfl) ?_
            refine lv_aload_n hx hb dX9_landingChance_61 rfl (lv_at hl 0 rfl) ?_
            refine va_get (D := D) (ci := 9) (v := .ref a6) (C := RX9) (T := TX9) (N := 45) hx hb hts in_X9 hown hK hP 0 rfl rfl 6 (by decide) lk_29 (fun _ h9 => h9) rfl dX9_landingChance_62 ?_
            refine lv_iconst (v := 0) hx hb dX9_landingChance_65 (by decide) ?_
            obtain ⟨hi, hf⟩ := gIx_some hf
            refine va_iald hx hb hK hP 2 1 rfl rfl hi dX9_landingChance_66 ?_
            refine lv_icmp_ge (tgt := 95) hx hb dX9_landingChance_67 (by decide) (fun hc => ?_) (fun hc => ?_)
            · have hf := o_t hc hf
              cases hf
              exact hk _ _ _ hP hD hS (lv_sub hl [0, 1, 2, 3, 4] rfl)
            · have hf := o_f hc hf
              refine lv_lload_n hx hb dX9_landingChance_70 rfl (lv_at hl 3 rfl) ?_
              refine lv_aload_n hx hb dX9_landingChance_71 rfl (lv_at hl 0 rfl) ?_
              refine va_get (D := D) (ci := 9) (v := .ref a21) (C := RX9) (T := TX9) (N := 45) hx hb hts in_X9 hown hK hP 0 rfl rfl 36 (by decide) lk_78 (fun _ h9 => h9) rfl dX9_landingChance_72 ?_
              refine lv_iload hx hb dX9_landingChance_75 (lv_at hl 4 rfl) ?_
              obtain ⟨hi, hf⟩ := gIx_some hf
              refine va_lald hx hb hK hP 4 2 rfl rfl hi dX9_landingChance_77 ?_
              refine lv_aload_n hx hb dX9_landingChance_78 rfl (lv_at hl 0 rfl) ?_
              refine lv_iload hx hb dX9_landingChance_79 (lv_at hl 4 rfl) ?_
              refine lv_iload_n hx hb dX9_landingChance_81 rfl (lv_at hl 1 rfl) ?_
              obtain ⟨r_5, hc, hf⟩ := ob1_some hf
              refine g_VI (As := [.int y5_59, .int x1]) (rest := [.long (chance_3 (y5_59 : Int32).toNatClampNeg), .long y3_59]) (ws' := (w_X9_landingChance kc a0 a1 a2 a3 a4 a5 a6 a7 a8 a9 a10 a11 a12 a13 a14 a15 a16 a17 a18 a19 a20 a21 a22 a23 a24 a25 a26 a27 a28 thrown_27 loftSize startWind seed draftLoft draftStart draftSeed length textSize start next_ token value error errorAt number undos regions winds now chance_3 turns turnFrom turnWeight chanceNext_4 turnTo named namedWeight namedRegion)) ⟨hx, hb, hml, hown, hts⟩ hN hK hP hD hS hA (c_X9_weightBy l D kc N a0 a1 a2 a3 a4 a5 a6 a7 a8 a9 a10 a11 a12 a13 a14 a15 a16 a17 a18 a19 a20 a21 a22 a23 a24 a25 a26 a27 a28 thrown_27 loftSize startWind seed draftLoft draftStart draftSeed length textSize start next_ token value error errorAt number undos named namedWeight namedRegion y5_59 x1 r_5 hc) (cwV 2 hts gX9_landingChance_X9_weightBy rfl rfl rfl (by decide +kernel) ⟨Nat.le_of_ble_eq_true rfl, Nat.le_of_ble_eq_true rfl⟩) [0, 10, 11, 12] [1, 2, 3, 4, 5, 6, 7, 8, 9] [9, 0, 1, 2, 3, 4, 5, 6, 7, 8, 10, 11, 12] (by exact ⟨rfl, rfl, by decide, rfl⟩) 0 9 rfl rfl rfl rfl hl.1 rfl (Nat.le_of_ble_eq_true rfl) dX9_landingChance_82 ⟨Nat.le_refl _, Nat.le_refl _⟩ (fun H locs hP hD hS => ?_)
              refine lv_i2l (v := (r_5 : Int32).toInt64) hx hb dX9_landingChance_85 rfl ?_
              refine lv_lmul hx hb dX9_landingChance_86 ?_
              refine lv_ladd hx hb dX9_landingChance_87 ?_
              refine lv_lstore_n (lv' := [(3, .long (y3_59 + ((chance_3 (y5_59 : Int32).toNatClampNeg) * ((r_5 : Int32).toInt64)))), (0, .ref a0), (1, .int x1), (2, .int x2), (5, .int y5_59)]) hx hb dX9_landingChance_88 rfl hl (by decide) rfl (fun ls hl => ?_)
              refine lv_iinc (v := (y5_59 + 1)) (lv' := [(5, .int (y5_59 + 1)), (3, .long (y3_59 + ((chance_3 (y5_59 : Int32).toNatClampNeg) * ((r_5 : Int32).toInt64)))), (0, .ref a0), (1, .int x1), (2, .int x2)]) hx hb dX9_landingChance_89 hl (k := 4) rfl (by rfl) (by decide) rfl (fun ls hl => ?_)
              refine lv_goto (tgt := 59) hx hb dX9_landingChance_92 (by decide) ?_
              exact ih _ _ _ _ hf hk _ _ _ hP hD hS (lv_sub hl [2, 3, 4, 1, 0] rfl)
        obtain ⟨y5_59o, y3_59o, hc, hf⟩ := ob2_some hf
        refine L59 N _ _ _ _ hc (fun H locs ls hP hD hS hl => ?_) _ _ _ hP hD hS (lv_sub hl [2, 3, 4, 1, 0] rfl)
        refine lv_lload_n hx hb dX9_landingChance_95 rfl (lv_at hl 3 rfl) ?_
        cases hf
        exact kR _ _ _ _ hP hD hS dX9_landingChance_96
      · have hf := o_t hc hf
        refine lv_ldc2 (v := (-1)) hx hb hown (hts (.constantLong RX9 261 (-1)) (by decide +kernel)) dX9_landingChance_43 ?_
        cases hf
        exact kR _ _ _ _ hP hD hS dX9_landingChance_46
  unfold f_X9_landingChance at hf
  refine lv_aload_n hx hb dX9_landingChance_0 rfl (lv_at hl 0 rfl) ?_
  refine lv_iconst (v := 0) hx hb dX9_landingChance_1 (by decide) ?_
  refine va_put (D := D) (ci := 9) (v := .int 0) (ty := .int) (C := RX9) (T := TX9) (N := 45) hx hb hts in_X9 tyX9 tyX9_ok nmX9 hown hK hP hD hS 0 rfl rfl 0 (by decide) lk_1 (fun _ h9 => h9) rfl (by decide +kernel) rfl rfl (Nat.le_of_ble_eq_true rfl) dX9_landingChance_2 (fun H locs hP hD hS => ?_)
  have hP : va_P D vwCl (w_X9_landingChance kc a0 a1 a2 a3 a4 a5 a6 a7 a8 a9 a10 a11 a12 a13 a14 a15 a16 a17 a18 a19 a20 a21 a22 a23 a24 a25 a26 a27 a28 0 loftSize startWind seed draftLoft draftStart draftSeed length textSize start next_ token value error errorAt number undos regions winds now chance turns turnFrom turnWeight chanceNext turnTo named namedWeight namedRegion) H := hP
  have hD : va_D A (w_X9_landingChance kc a0 a1 a2 a3 a4 a5 a6 a7 a8 a9 a10 a11 a12 a13 a14 a15 a16 a17 a18 a19 a20 a21 a22 a23 a24 a25 a26 a27 a28 0 loftSize startWind seed draftLoft draftStart draftSeed length textSize start next_ token value error errorAt number undos regions winds now chance turns turnFrom turnWeight chanceNext turnTo named namedWeight namedRegion) := hD
  refine lv_iload_n hx hb dX9_landingChance_5 rfl (lv_at hl 1 rfl) ?_
  refine lv_bipush (v := (-2)) hx hb dX9_landingChance_6 (by decide) ?_
  refine lv_icmp_eq (tgt := 27) hx hb dX9_landingChance_8 (by decide) (fun hc => ?_) (fun hc => ?_)
  · have hf := o_t hc hf
    exact J27 _ hf _ _ _ hP hD hS (lv_sub hl [0, 1, 2] rfl)
  · have hf := o_f hc hf
    refine lv_iload_n hx hb dX9_landingChance_11 rfl (lv_at hl 1 rfl) ?_
    refine lv_iconst (v := 0) hx hb dX9_landingChance_12 (by decide) ?_
    refine lv_aload_n hx hb dX9_landingChance_13 rfl (lv_at hl 0 rfl) ?_
    refine va_get (D := D) (ci := 9) (v := .ref a2) (C := RX9) (T := TX9) (N := 45) hx hb hts in_X9 hown hK hP 0 rfl rfl 2 (by decide) lk_17 (fun _ h9 => h9) rfl dX9_landingChance_14 ?_
    refine lv_iconst (v := 0) hx hb dX9_landingChance_17 (by decide) ?_
    obtain ⟨hi, hf⟩ := gIx_some hf
    refine va_iald hx hb hK hP 1 1 rfl rfl hi dX9_landingChance_18 ?_
    refine lv_iconst (v := 1) hx hb dX9_landingChance_19 (by decide) ?_
    refine lv_isub hx hb dX9_landingChance_20 ?_
    obtain ⟨r_6, hc, hf⟩ := ob1_some hf
    refine g_SZ (As := [.int x1, .int 0, .int ((regions (0 : Int32).toNatClampNeg) - 1)]) (rest := []) (ws' := (w_X9_landingChance kc a0 a1 a2 a3 a4 a5 a6 a7 a8 a9 a10 a11 a12 a13 a14 a15 a16 a17 a18 a19 a20 a21 a22 a23 a24 a25 a26 a27 a28 0 loftSize startWind seed draftLoft draftStart draftSeed length textSize start next_ token value error errorAt number undos regions winds now chance turns turnFrom turnWeight chanceNext turnTo named namedWeight namedRegion)) ⟨hx, hb, hml, hown, hts⟩ hN hK hP hD hS hA (c_X9_within l D kc N x1 0 ((regions (0 : Int32).toNatClampNeg) - 1) r_6 hc) (va_cwS 3 hts gX9_landingChance_X9_within rfl rfl rfl (by decide +kernel) ⟨Nat.le_of_ble_eq_true rfl, Nat.le_of_ble_eq_true rfl⟩) [] [0, 1, 2, 3, 4, 5, 6, 7, 8, 9, 10, 11, 12] [0, 1, 2, 3, 4, 5, 6, 7, 8, 9, 10, 11, 12] (by exact ⟨rfl, rfl, by decide, rfl⟩) rfl hl.1 rfl (Nat.le_of_ble_eq_true rfl) dX9_landingChance_21 ⟨Nat.le_refl _, Nat.le_refl _⟩ (fun H locs hz hP hD hS => ?_)
    have hz_7 := hz
    refine lv_if_eq (tgt := 43) hx hb dX9_landingChance_24 (by decide) (fun hc => ?_) (fun hc => ?_)
    · have hf := o_t hc hf
      refine lv_ldc2 (v := (-1)) hx hb hown (hts (.constantLong RX9 261 (-1)) (by decide +kernel)) dX9_landingChance_43 ?_
      cases hf
      exact kR _ _ _ _ hP hD hS dX9_landingChance_46
    · have hf := o_f hc hf
      exact J27 _ hf _ _ _ hP hD hS (lv_sub hl [0, 1, 2] rfl)
abbrev w_X9_power (kc : Nat → ClassId) : va_W := []
set_option maxHeartbeats 4000000 in
set_option maxRecDepth 100000 in
theorem c_X9_power (l : Launch) (D : va_G) (kc : Nat → ClassId) (N : Nat) (x0 : Int32) (x1 : Int32) (r_ : Int64) (hf : f_X9_power N x0 x1 = some r_) : ML l yX9_power wsX9_power ({ frames := 0, cells := 0, slots := 0, locals := 0 }) D kc [.int x0, .int x1] (w_X9_power kc ) (w_X9_power kc ) r_ := by
  refine gM_L (cc := cX9_power) (maxL := 5) (by decide) rfl (Nat.le_of_ble_eq_true rfl) ?_
  intro p e s m below meth c A ls Q hx hb hml hown hts hN hK hP hD hA hl kR
  have hS : va_S A s.heap s.heap [] := va_S.rf
  have hl : lv_has ls 5 [(0, .int x0), (1, .int x1)] := hl
  unfold f_X9_power at hf
  refine lv_lconst (v := 1) hx hb dX9_power_0 (by decide) ?_
  refine lv_lstore_n (lv' := [(2, .long 1), (0, .int x0), (1, .int x1)]) hx hb dX9_power_1 rfl hl (by decide) rfl (fun ls hl => ?_)
  refine lv_iconst (v := 0) hx hb dX9_power_2 (by decide) ?_
  refine lv_istore (lv' := [(4, .int 0), (2, .long 1), (0, .int x0), (1, .int x1)]) hx hb dX9_power_3 hl (by decide) rfl (fun ls hl => ?_)
  have L5 : ∀ (n : Nat) (y4_5 : Int32) (y2_5 : Int64) (y4_5o : Int32) (y2_5o : Int64), f_X9_power_5 N x0 x1 n y4_5 y2_5 = some (y4_5o, y2_5o) → (∀ (H : Heap) (locs : List Loc) (ls : Array Slot), va_P D vwCl (w_X9_power kc ) H → va_D A (w_X9_power kc ) → va_S A s.heap H locs → lv_has ls 5 [(0, .int x0), (1, .int x1), (2, .long y2_5o), (4, .int y4_5o)] → W p l e ({ frames := 0, cells := 0, slots := 0, locals := 0 }) s m (([.int x0, .int x1] : List Value).toArray) below meth c H locs 0 0 Q (F0 m 22 ls [])) → ∀ (H : Heap) (locs : List Loc) (ls : Array Slot), va_P D vwCl (w_X9_power kc ) H → va_D A (w_X9_power kc ) → va_S A s.heap H locs → lv_has ls 5 [(0, .int x0), (1, .int x1), (2, .long y2_5), (4, .int y4_5)] → W p l e ({ frames := 0, cells := 0, slots := 0, locals := 0 }) s m (([.int x0, .int x1] : List Value).toArray) below meth c H locs 0 0 Q (F0 m 5 ls []) := by
    intro n
    induction n with
    | zero => intro _ _ _ _ hf; rw [f_X9_power_5.eq_1] at hf; cases hf
    | succ n ih =>
      intro y4_5 y2_5 y4_5o y2_5o hf hk H locs ls hP hD hS hl
      rw [f_X9_power_5.eq_2] at hf
      refine lv_iload hx hb dX9_power_5 (lv_at hl 3 rfl) ?_
      refine lv_iload_n hx hb dX9_power_7 rfl (lv_at hl 1 rfl) ?_
      refine lv_icmp_ge (tgt := 22) hx hb dX9_power_8 (by decide) (fun hc => ?_) (fun hc => ?_)
      · have hf := o_t hc hf
        cases hf
        exact hk _ _ _ hP hD hS (lv_sub hl [0, 1, 2, 3] rfl)
      · have hf := o_f hc hf
        refine lv_lload_n hx hb dX9_power_11 rfl (lv_at hl 2 rfl) ?_
        refine lv_iload_n hx hb dX9_power_12 rfl (lv_at hl 0 rfl) ?_
        refine lv_i2l (v := (x0 : Int32).toInt64) hx hb dX9_power_13 rfl ?_
        refine lv_lmul hx hb dX9_power_14 ?_
        refine lv_lstore_n (lv' := [(2, .long (y2_5 * ((x0 : Int32).toInt64))), (0, .int x0), (1, .int x1), (4, .int y4_5)]) hx hb dX9_power_15 rfl hl (by decide) rfl (fun ls hl => ?_)
        refine lv_iinc (v := (y4_5 + 1)) (lv' := [(4, .int (y4_5 + 1)), (2, .long (y2_5 * ((x0 : Int32).toInt64))), (0, .int x0), (1, .int x1)]) hx hb dX9_power_16 hl (k := 3) rfl (by rfl) (by decide) rfl (fun ls hl => ?_)
        refine lv_goto (tgt := 5) hx hb dX9_power_19 (by decide) ?_
        exact ih _ _ _ _ hf hk _ _ _ hP hD hS (lv_sub hl [2, 3, 1, 0] rfl)
  obtain ⟨y4_5o, y2_5o, hc, hf⟩ := ob2_some hf
  refine L5 N _ _ _ _ hc (fun H locs ls hP hD hS hl => ?_) _ _ _ hP hD hS (lv_sub hl [2, 3, 1, 0] rfl)
  refine lv_lload_n hx hb dX9_power_22 rfl (lv_at hl 2 rfl) ?_
  cases hf
  exact kR _ _ _ _ hP hD hS dX9_power_23
abbrev w_X9_chanceOf (kc : Nat → ClassId) (a0 a1 a2 a3 a4 a5 a6 a7 a8 a9 a10 a11 a12 a13 a14 a15 a16 a17 a18 a19 a20 a21 a22 a23 a24 a25 a26 a27 a28 : Nat) (thrown : Int32) (loftSize : Int32) (startWind : Int32) (seed : Int32) (draftLoft : Int32) (draftStart : Int32) (draftSeed : Int32) (length : Int32) (textSize : Int32) (start : Int32) (next_ : Int32) (token : Int32) (value : Int32) (error : Int32) (errorAt : Int32) (number : Int32) (undos : Int32) (now : Nat → Int32) (chance : Nat → Int64) (turns : Nat → Int32) (turnFrom : Nat → Int32) (turnWeight : Nat → Int32) (chanceNext : Nat → Int64) (turnTo : Nat → Int32) (winds : Nat → Int32) (regions : Nat → Int32) (named : Nat → Int32) (namedWeight : Nat → Int32) (namedRegion : Nat → Int32) (risk : Nat → Int32) (comesBack : Nat → Int32) : va_W := [(a0, .inr (9, [.int thrown, .ref a1, .ref a2, .ref a3, .ref a4, .ref a5, .ref a6, .ref a7, .ref a8, .ref a9, .ref a10, .ref a11, .ref a12, .ref a13, .ref a14, .ref a15, .ref a16, .ref a17, .ref a18, .ref a19, .int loftSize, .int startWind, .int seed, .int draftLoft, .int draftStart, .int draftSeed, .ref a20, .int length, .int textSize, .int start, .int next_, .int token, .int value, .int error, .int errorAt, .int number, .ref a21, .ref a22, .ref a23, .ref a24, .ref a25, .int undos, .ref a26, .ref a27, .ref a28])), (a1, .inl (kc 1, 213, .inl now)), (a21, .inl (kc 2, 6, .inr (.inl chance))), (a10, .inl (kc 1, 2, .inl turns)), (a11, .inl (kc 1, 60, .inl turnFrom)), (a13, .inl (kc 1, 60, .inl turnWeight)), (a22, .inl (kc 2, 6, .inr (.inl chanceNext))), (a12, .inl (kc 1, 60, .inl turnTo)), (a6, .inl (kc 1, 2, .inl winds)), (a2, .inl (kc 1, 2, .inl regions)), (a7, .inl (kc 1, 12, .inl named)), (a9, .inl (kc 1, 96, .inl namedWeight)), (a8, .inl (kc 1, 96, .inl namedRegion)), (a3, .inl (kc 1, 16, .inl risk)), (a5, .inl (kc 1, 16, .inl comesBack))]
set_option maxHeartbeats 4000000 in
set_option maxRecDepth 100000 in
theorem c_X9_chanceOf (l : Launch) (D : va_G) (kc : Nat → ClassId) (N : Nat) (a0 a1 a2 a3 a4 a5 a6 a7 a8 a9 a10 a11 a12 a13 a14 a15 a16 a17 a18 a19 a20 a21 a22 a23 a24 a25 a26 a27 a28 : Nat) (thrown : Int32) (loftSize : Int32) (startWind : Int32) (seed : Int32) (draftLoft : Int32) (draftStart : Int32) (draftSeed : Int32) (length : Int32) (textSize : Int32) (start : Int32) (next_ : Int32) (token : Int32) (value : Int32) (error : Int32) (errorAt : Int32) (number : Int32) (undos : Int32) (now : Nat → Int32) (chance : Nat → Int64) (turns : Nat → Int32) (turnFrom : Nat → Int32) (turnWeight : Nat → Int32) (chanceNext : Nat → Int64) (turnTo : Nat → Int32) (winds : Nat → Int32) (regions : Nat → Int32) (named : Nat → Int32) (namedWeight : Nat → Int32) (namedRegion : Nat → Int32) (risk : Nat → Int32) (comesBack : Nat → Int32) (x1 : Int32) (x2 : Int32) (r_ : Int64) (chance' : Nat → Int64) (chanceNext' : Nat → Int64) (hf : f_X9_chanceOf N now chance turns turnFrom turnWeight chanceNext turnTo winds regions named namedWeight namedRegion risk comesBack x1 x2 = some (r_, chance', chanceNext')) : ML l yX9_chanceOf wsX9_chanceOf ({ frames := 2, cells := 0, slots := 0, locals := 47 }) D kc [.ref a0, .int x1, .int x2] (w_X9_chanceOf kc a0 a1 a2 a3 a4 a5 a6 a7 a8 a9 a10 a11 a12 a13 a14 a15 a16 a17 a18 a19 a20 a21 a22 a23 a24 a25 a26 a27 a28 thrown loftSize startWind seed draftLoft draftStart draftSeed length textSize start next_ token value error errorAt number undos now chance turns turnFrom turnWeight chanceNext turnTo winds regions named namedWeight namedRegion risk comesBack) (w_X9_chanceOf kc a0 a1 a2 a3 a4 a5 a6 a7 a8 a9 a10 a11 a12 a13 a14 a15 a16 a17 a18 a19 a20 a21 a22 a23 a24 a25 a26 a27 a28 thrown loftSize startWind seed draftLoft draftStart draftSeed length textSize start next_ token value error errorAt number undos now chance' turns turnFrom turnWeight chanceNext' turnTo winds regions named namedWeight namedRegion risk comesBack) r_ := by
  refine gM_L (cc := cX9_chanceOf) (maxL := 9) (by decide) rfl (Nat.le_of_ble_eq_true rfl) ?_
  intro p e s m below meth c A ls Q hx hb hml hown hts hN hK hP hD hA hl kR
  have hS : va_S A s.heap s.heap [] := va_S.rf
  have hl : lv_has ls 9 [(0, .ref a0), (1, .int x1), (2, .int x2)] := hl
  have in_X9 : ∀ w ∈ u_ws RX9 TX9 45, w ∈ wsX9_chanceOf := by decide +kernel
  have lk_29 := hts (.fieldLink RX9 29 "BalloonMailModel" "winds" "[I") (by decide +kernel)
  have lk_17 := hts (.fieldLink RX9 17 "BalloonMailModel" "regions" "[I") (by decide +kernel)
  have lk_26 := hts (.fieldLink RX9 26 "BalloonMailModel" "comesBack" "[I") (by decide +kernel)
  have lk_78 := hts (.fieldLink RX9 78 "BalloonMailModel" "chance" "[J") (by decide +kernel)
  have lk_20 := hts (.fieldLink RX9 20 "BalloonMailModel" "risk" "[I") (by decide +kernel)
  unfold f_X9_chanceOf at hf
  refine lv_aload_n hx hb dX9_chanceOf_0 rfl (lv_at hl 0 rfl) ?_
  refine lv_iload_n hx hb dX9_chanceOf_1 rfl (lv_at hl 2 rfl) ?_
  refine lv_bipush (v := (-2)) hx hb dX9_chanceOf_2 (by decide) ?_
  obtain ⟨chance_1, chanceNext_2, hc, hf⟩ := ob2_some hf
  refine g_VV (As := [.int x2, .int (-2)]) (rest := []) (ws' := (w_X9_chanceOf kc a0 a1 a2 a3 a4 a5 a6 a7 a8 a9 a10 a11 a12 a13 a14 a15 a16 a17 a18 a19 a20 a21 a22 a23 a24 a25 a26 a27 a28 thrown loftSize startWind seed draftLoft draftStart draftSeed length textSize start next_ token value error errorAt number undos now chance_1 turns turnFrom turnWeight chanceNext_2 turnTo winds regions named namedWeight namedRegion risk comesBack)) ⟨hx, hb, hml, hown, hts⟩ hN hK hP hD hS hA (c_X9_goesOn l D kc N a0 a1 a2 a3 a4 a5 a6 a7 a8 a9 a10 a11 a12 a13 a14 a15 a16 a17 a18 a19 a20 a21 a22 a23 a24 a25 a26 a27 a28 thrown loftSize startWind seed draftLoft draftStart draftSeed length textSize start next_ token value error errorAt number undos now chance turns turnFrom turnWeight chanceNext turnTo x2 (-2) chance_1 chanceNext_2 hc) (cwV 2 hts gX9_chanceOf_X9_goesOn rfl rfl rfl (by decide +kernel) ⟨Nat.le_of_ble_eq_true rfl, Nat.le_of_ble_eq_true rfl⟩) [0, 1, 2, 3, 4, 5, 6, 7] [8, 9, 10, 11, 12, 13, 14] [7, 8, 9, 10, 11, 12, 13, 14, 0, 1, 2, 3, 4, 5, 6] (by exact ⟨rfl, rfl, by decide, rfl⟩) 0 9 rfl rfl rfl rfl hl.1 rfl (Nat.le_of_ble_eq_true rfl) dX9_chanceOf_4 ⟨Nat.le_refl _, Nat.le_refl _⟩ (fun H locs hP hD hS => ?_)
  refine lv_lconst (v := 0) hx hb dX9_chanceOf_7 (by decide) ?_
  refine lv_lstore_n (lv' := [(3, .long 0), (0, .ref a0), (1, .int x1), (2, .int x2)]) hx hb dX9_chanceOf_8 rfl hl (by decide) rfl (fun ls hl => ?_)
  refine lv_iconst (v := 0) hx hb dX9_chanceOf_9 (by decide) ?_
  refine lv_istore (lv' := [(5, .int 0), (3, .long 0), (0, .ref a0), (1, .int x1), (2, .int x2)]) hx hb dX9_chanceOf_10 hl (by decide) rfl (fun ls hl => ?_)
  have L12 : ∀ (n : Nat) (y5_12 : Int32) (y3_12 : Int64) (y5_12o : Int32) (y3_12o : Int64), f_X9_chanceOf_12 N winds regions named namedWeight namedRegion risk comesBack x1 chance_1 n y5_12 y3_12 = some (y5_12o, y3_12o) → (∀ (H : Heap) (locs : List Loc) (ls : Array Slot), va_P D vwCl (w_X9_chanceOf kc a0 a1 a2 a3 a4 a5 a6 a7 a8 a9 a10 a11 a12 a13 a14 a15 a16 a17 a18 a19 a20 a21 a22 a23 a24 a25 a26 a27 a28 thrown loftSize startWind seed draftLoft draftStart draftSeed length textSize start next_ token value error errorAt number undos now chance_1 turns turnFrom turnWeight chanceNext_2 turnTo winds regions named namedWeight namedRegion risk comesBack) H → va_D A (w_X9_chanceOf kc a0 a1 a2 a3 a4 a5 a6 a7 a8 a9 a10 a11 a12 a13 a14 a15 a16 a17 a18 a19 a20 a21 a22 a23 a24 a25 a26 a27 a28 thrown loftSize startWind seed draftLoft draftStart draftSeed length textSize start next_ token value error errorAt number undos now chance_1 turns turnFrom turnWeight chanceNext_2 turnTo winds regions named namedWeight namedRegion risk comesBack) → va_S A s.heap H locs → lv_has ls 9 [(0, .ref a0), (1, .int x1), (2, .int x2), (3, .long y3_12o), (5, .int y5_12o)] → W p l e ({ frames := 2, cells := 0, slots := 0, locals := 47 }) s m (([.ref a0, .int x1, .int x2] : List Value).toArray) below meth c H locs 0 0 Q (F0 m 115 ls [])) → ∀ (H : Heap) (locs : List Loc) (ls : Array Slot), va_P D vwCl (w_X9_chanceOf kc a0 a1 a2 a3 a4 a5 a6 a7 a8 a9 a10 a11 a12 a13 a14 a15 a16 a17 a18 a19 a20 a21 a22 a23 a24 a25 a26 a27 a28 thrown loftSize startWind seed draftLoft draftStart draftSeed length textSize start next_ token value error errorAt number undos now chance_1 turns turnFrom turnWeight chanceNext_2 turnTo winds regions named namedWeight namedRegion risk comesBack) H → va_D A (w_X9_chanceOf kc a0 a1 a2 a3 a4 a5 a6 a7 a8 a9 a10 a11 a12 a13 a14 a15 a16 a17 a18 a19 a20 a21 a22 a23 a24 a25 a26 a27 a28 thrown loftSize startWind seed draftLoft draftStart draftSeed length textSize start next_ token value error errorAt number undos now chance_1 turns turnFrom turnWeight chanceNext_2 turnTo winds regions named namedWeight namedRegion risk comesBack) → va_S A s.heap H locs → lv_has ls 9 [(0, .ref a0), (1, .int x1), (2, .int x2), (3, .long y3_12), (5, .int y5_12)] → W p l e ({ frames := 2, cells := 0, slots := 0, locals := 47 }) s m (([.ref a0, .int x1, .int x2] : List Value).toArray) below meth c H locs 0 0 Q (F0 m 12 ls []) := by
    intro n
    induction n with
    | zero => intro _ _ _ _ hf; rw [f_X9_chanceOf_12.eq_1] at hf; cases hf
    | succ n ih =>
      intro y5_12 y3_12 y5_12o y3_12o hf hk H locs ls hP hD hS hl
      rw [f_X9_chanceOf_12.eq_2] at hf
      refine lv_iload hx hb dX9_chanceOf_12 (lv_at hl 4 rfl) ?_
      refine lv_aload_n hx hb dX9_chanceOf_14 rfl (lv_at hl 0 rfl) ?_
      refine va_get (D := D) (ci := 9) (v := .ref a6) (C := RX9) (T := TX9) (N := 45) hx hb hts in_X9 hown hK hP 0 rfl rfl 6 (by decide) lk_29 (fun _ h9 => h9) rfl dX9_chanceOf_15 ?_
      refine lv_iconst (v := 0) hx hb dX9_chanceOf_18 (by decide) ?_
      obtain ⟨hi, hf⟩ := gIx_some hf
      refine va_iald hx hb hK hP 8 1 rfl rfl hi dX9_chanceOf_19 ?_
      refine lv_icmp_ge (tgt := 115) hx hb dX9_chanceOf_20 (by decide) (fun hc => ?_) (fun hc => ?_)
      · have hf := o_t hc hf
        cases hf
        exact hk _ _ _ hP hD hS (lv_sub hl [0, 1, 2, 3, 4] rfl)
      · have hf := o_f hc hf
        refine lv_iconst (v := 0) hx hb dX9_chanceOf_23 (by decide) ?_
        refine lv_istore (lv' := [(6, .int 0), (0, .ref a0), (1, .int x1), (2, .int x2), (3, .long y3_12), (5, .int y5_12)]) hx hb dX9_chanceOf_24 hl (by decide) rfl (fun ls hl => ?_)
        have L26 : ∀ (n : Nat) (y6_26 : Int32) (y3_26 : Int64) (y6_26o : Int32) (y3_26o : Int64), f_X9_chanceOf_26 N regions named namedWeight namedRegion risk comesBack x1 chance_1 y5_12 n y6_26 y3_26 = some (y6_26o, y3_26o) → (∀ (H : Heap) (locs : List Loc) (ls : Array Slot), va_P D vwCl (w_X9_chanceOf kc a0 a1 a2 a3 a4 a5 a6 a7 a8 a9 a10 a11 a12 a13 a14 a15 a16 a17 a18 a19 a20 a21 a22 a23 a24 a25 a26 a27 a28 thrown loftSize startWind seed draftLoft draftStart draftSeed length textSize start next_ token value error errorAt number undos now chance_1 turns turnFrom turnWeight chanceNext_2 turnTo winds regions named namedWeight namedRegion risk comesBack) H → va_D A (w_X9_chanceOf kc a0 a1 a2 a3 a4 a5 a6 a7 a8 a9 a10 a11 a12 a13 a14 a15 a16 a17 a18 a19 a20 a21 a22 a23 a24 a25 a26 a27 a28 thrown loftSize startWind seed draftLoft draftStart draftSeed length textSize start next_ token value error errorAt number undos now chance_1 turns turnFrom turnWeight chanceNext_2 turnTo winds regions named namedWeight namedRegion risk comesBack) → va_S A s.heap H locs → lv_has ls 9 [(0, .ref a0), (1, .int x1), (2, .int x2), (3, .long y3_26o), (5, .int y5_12), (6, .int y6_26o)] → W p l e ({ frames := 2, cells := 0, slots := 0, locals := 47 }) s m (([.ref a0, .int x1, .int x2] : List Value).toArray) below meth c H locs 0 0 Q (F0 m 109 ls [])) → ∀ (H : Heap) (locs : List Loc) (ls : Array Slot), va_P D vwCl (w_X9_chanceOf kc a0 a1 a2 a3 a4 a5 a6 a7 a8 a9 a10 a11 a12 a13 a14 a15 a16 a17 a18 a19 a20 a21 a22 a23 a24 a25 a26 a27 a28 thrown loftSize startWind seed draftLoft draftStart draftSeed length textSize start next_ token value error errorAt number undos now chance_1 turns turnFrom turnWeight chanceNext_2 turnTo winds regions named namedWeight namedRegion risk comesBack) H → va_D A (w_X9_chanceOf kc a0 a1 a2 a3 a4 a5 a6 a7 a8 a9 a10 a11 a12 a13 a14 a15 a16 a17 a18 a19 a20 a21 a22 a23 a24 a25 a26 a27 a28 thrown loftSize startWind seed draftLoft draftStart draftSeed length textSize start next_ token value error errorAt number undos now chance_1 turns turnFrom turnWeight chanceNext_2 turnTo winds regions named namedWeight namedRegion risk comesBack) → va_S A s.heap H locs → lv_has ls 9 [(0, .ref a0), (1, .int x1), (2, .int x2), (3, .long y3_26), (5, .int y5_12), (6, .int y6_26)] → W p l e ({ frames := 2, cells := 0, slots := 0, locals := 47 }) s m (([.ref a0, .int x1, .int x2] : List Value).toArray) below meth c H locs 0 0 Q (F0 m 26 ls []) := by
          intro n
          induction n with
          | zero => intro _ _ _ _ hf; rw [f_X9_chanceOf_26.eq_1] at hf; cases hf
          | succ n ih =>
            intro y6_26 y3_26 y6_26o y3_26o hf hk H locs ls hP hD hS hl
            rw [f_X9_chanceOf_26.eq_2] at hf
            refine lv_iload hx hb dX9_chanceOf_26 (lv_at hl 5 rfl) ?_
            refine lv_aload_n hx hb dX9_chanceOf_28 rfl (lv_at hl 0 rfl) ?_
            refine va_get (D := D) (ci := 9) (v := .ref a2) (C := RX9) (T := TX9) (N := 45) hx hb hts in_X9 hown hK hP 0 rfl rfl 2 (by decide) lk_17 (fun _ h9 => h9) rfl dX9_chanceOf_29 ?_
            refine lv_iconst (v := 0) hx hb dX9_chanceOf_32 (by decide) ?_
            obtain ⟨hi, hf⟩ := gIx_some hf
            refine va_iald hx hb hK hP 9 1 rfl rfl hi dX9_chanceOf_33 ?_
            refine lv_icmp_ge (tgt := 109) hx hb dX9_chanceOf_34 (by decide) (fun hc => ?_) (fun hc => ?_)
            · have hf := o_t hc hf
              cases hf
              exact hk _ _ _ hP hD hS (lv_sub hl [0, 1, 2, 3, 4, 5] rfl)
            · have hf := o_f hc hf
              refine lv_iload_n hx hb dX9_chanceOf_37 rfl (lv_at hl 1 rfl) ?_
              refine lv_if_ge (tgt := 45) hx hb dX9_chanceOf_38 (by decide) (fun hc => ?_) (fun hc => ?_)
              · have hf := o_t hc hf
                refine lv_bipush (v := 10) hx hb dX9_chanceOf_45 (by decide) ?_
                refine lv_iload_n hx hb dX9_chanceOf_47 rfl (lv_at hl 1 rfl) ?_
                obtain ⟨r_3, hc, hf⟩ := ob1_some hf
                refine g_SL (As := [.int 10, .int x1]) (rest := []) (ws' := (w_X9_chanceOf kc a0 a1 a2 a3 a4 a5 a6 a7 a8 a9 a10 a11 a12 a13 a14 a15 a16 a17 a18 a19 a20 a21 a22 a23 a24 a25 a26 a27 a28 thrown loftSize startWind seed draftLoft draftStart draftSeed length textSize start next_ token value error errorAt number undos now chance_1 turns turnFrom turnWeight chanceNext_2 turnTo winds regions named namedWeight namedRegion risk comesBack)) ⟨hx, hb, hml, hown, hts⟩ hN hK hP hD hS hA (c_X9_power l D kc N 10 x1 r_3 hc) (va_cwS 2 hts gX9_chanceOf_X9_power rfl rfl rfl (by decide +kernel) ⟨Nat.le_of_ble_eq_true rfl, Nat.le_of_ble_eq_true rfl⟩) [] [0, 1, 2, 3, 4, 5, 6, 7, 8, 9, 10, 11, 12, 13, 14] [0, 1, 2, 3, 4, 5, 6, 7, 8, 9, 10, 11, 12, 13, 14] (by exact ⟨rfl, rfl, by decide, rfl⟩) rfl hl.1 rfl (Nat.le_of_ble_eq_true rfl) dX9_chanceOf_48 ⟨Nat.le_refl _, Nat.le_refl _⟩ (fun H locs hP hD hS => ?_)
                refine lv_bipush (v := 10) hx hb dX9_chanceOf_51 (by decide) ?_
                refine lv_aload_n hx hb dX9_chanceOf_53 rfl (lv_at hl 0 rfl) ?_
                refine va_get (D := D) (ci := 9) (v := .ref a5) (C := RX9) (T := TX9) (N := 45) hx hb hts in_X9 hown hK hP 0 rfl rfl 5 (by decide) lk_26 (fun _ h9 => h9) rfl dX9_chanceOf_54 ?_
                refine lv_iload hx hb dX9_chanceOf_57 (lv_at hl 5 rfl) ?_
                obtain ⟨hi, hf⟩ := gIx_some hf
                refine va_iald hx hb hK hP 14 1 rfl rfl hi dX9_chanceOf_59 ?_
                refine lv_isub hx hb dX9_chanceOf_60 ?_
                refine lv_iload_n hx hb dX9_chanceOf_61 rfl (lv_at hl 1 rfl) ?_
                obtain ⟨r_4, hc, hf⟩ := ob1_some hf
                refine g_SL (As := [.int (10 - (comesBack (y6_26 : Int32).toNatClampNeg)), .int x1]) (rest := [.long r_3]) (ws' := (w_X9_chanceOf kc a0 a1 a2 a3 a4 a5 a6 a7 a8 a9 a10 a11 a12 a13 a14 a15 a16 a17 a18 a19 a20 a21 a22 a23 a24 a25 a26 a27 a28 thrown loftSize startWind seed draftLoft draftStart draftSeed length textSize start next_ token value error errorAt number undos now chance_1 turns turnFrom turnWeight chanceNext_2 turnTo winds regions named namedWeight namedRegion risk comesBack)) ⟨hx, hb, hml, hown, hts⟩ hN hK hP hD hS hA (c_X9_power l D kc N (10 - (comesBack (y6_26 : Int32).toNatClampNeg)) x1 r_4 hc) (va_cwS 2 hts gX9_chanceOf_X9_power rfl rfl rfl (by decide +kernel) ⟨Nat.le_of_ble_eq_true rfl, Nat.le_of_ble_eq_true rfl⟩) [] [0, 1, 2, 3, 4, 5, 6, 7, 8, 9, 10, 11, 12, 13, 14] [0, 1, 2, 3, 4, 5, 6, 7, 8, 9, 10, 11, 12, 13, 14] (by exact ⟨rfl, rfl, by decide, rfl⟩) rfl hl.1 rfl (Nat.le_of_ble_eq_true rfl) dX9_chanceOf_62 ⟨Nat.le_refl _, Nat.le_refl _⟩ (fun H locs hP hD hS => ?_)
                refine lv_lsub hx hb dX9_chanceOf_65 ?_
                refine lv_lstore (lv' := [(7, .long (r_3 - r_4)), (0, .ref a0), (1, .int x1), (2, .int x2), (3, .long y3_26), (5, .int y5_12), (6, .int y6_26)]) hx hb dX9_chanceOf_66 hl (by decide) rfl (fun ls hl => ?_)
                refine lv_lload_n hx hb dX9_chanceOf_68 rfl (lv_at hl 4 rfl) ?_
                refine lv_aload_n hx hb dX9_chanceOf_69 rfl (lv_at hl 1 rfl) ?_
                refine va_get (D := D) (ci := 9) (v := .ref a21) (C := RX9) (T := TX9) (N := 45) hx hb hts in_X9 hown hK hP 0 rfl rfl 36 (by decide) lk_78 (fun _ h9 => h9) rfl dX9_chanceOf_70 ?_
                refine lv_iload hx hb dX9_chanceOf_73 (lv_at hl 5 rfl) ?_
                obtain ⟨hi, hf⟩ := gIx_some hf
                refine va_lald hx hb hK hP 2 2 rfl rfl hi dX9_chanceOf_75 ?_
                refine lv_aload_n hx hb dX9_chanceOf_76 rfl (lv_at hl 1 rfl) ?_
                refine lv_iload hx hb dX9_chanceOf_77 (lv_at hl 5 rfl) ?_
                refine lv_iload hx hb dX9_chanceOf_79 (lv_at hl 6 rfl) ?_
                obtain ⟨r_5, hc, hf⟩ := ob1_some hf
                refine g_VI (As := [.int y5_12, .int y6_26]) (rest := [.long (chance_1 (y5_12 : Int32).toNatClampNeg), .long y3_26]) (ws' := (w_X9_chanceOf kc a0 a1 a2 a3 a4 a5 a6 a7 a8 a9 a10 a11 a12 a13 a14 a15 a16 a17 a18 a19 a20 a21 a22 a23 a24 a25 a26 a27 a28 thrown loftSize startWind seed draftLoft draftStart draftSeed length textSize start next_ token value error errorAt number undos now chance_1 turns turnFrom turnWeight chanceNext_2 turnTo winds regions named namedWeight namedRegion risk comesBack)) ⟨hx, hb, hml, hown, hts⟩ hN hK hP hD hS hA (c_X9_weightBy l D kc N a0 a1 a2 a3 a4 a5 a6 a7 a8 a9 a10 a11 a12 a13 a14 a15 a16 a17 a18 a19 a20 a21 a22 a23 a24 a25 a26 a27 a28 thrown loftSize startWind seed draftLoft draftStart draftSeed length textSize start next_ token value error errorAt number undos named namedWeight namedRegion y5_12 y6_26 r_5 hc) (cwV 2 hts gX9_chanceOf_X9_weightBy rfl rfl rfl (by decide +kernel) ⟨Nat.le_of_ble_eq_true rfl, Nat.le_of_ble_eq_true rfl⟩) [0, 10, 11, 12] [1, 2, 3, 4, 5, 6, 7, 8, 9, 13, 14] [11, 0, 1, 2, 3, 4, 5, 6, 7, 8, 12, 13, 14, 9, 10] (by exact ⟨rfl, rfl, by decide, rfl⟩) 0 9 rfl rfl rfl rfl hl.1 rfl (Nat.le_of_ble_eq_true rfl) dX9_chanceOf_81 ⟨Nat.le_refl _, Nat.le_refl _⟩ (fun H locs hP hD hS => ?_)
                refine lv_i2l (v := (r_5 : Int32).toInt64) hx hb dX9_chanceOf_84 rfl ?_
                refine lv_lmul hx hb dX9_chanceOf_85 ?_
                refine lv_bipush (v := 10) hx hb dX9_chanceOf_86 (by decide) ?_
                refine lv_aload_n hx hb dX9_chanceOf_88 rfl (lv_at hl 1 rfl) ?_
                refine va_get (D := D) (ci := 9) (v := .ref a3) (C := RX9) (T := TX9) (N := 45) hx hb hts in_X9 hown hK hP 0 rfl rfl 3 (by decide) lk_20 (fun _ h9 => h9) rfl dX9_chanceOf_89 ?_
                refine lv_iload hx hb dX9_chanceOf_92 (lv_at hl 6 rfl) ?_
                obtain ⟨hi, hf⟩ := gIx_some hf
                refine va_iald hx hb hK hP 13 1 rfl rfl hi dX9_chanceOf_94 ?_
                refine lv_isub hx hb dX9_chanceOf_95 ?_
                refine lv_i2l (v := ((10 - (risk (y6_26 : Int32).toNatClampNeg)) : Int32).toInt64) hx hb dX9_chanceOf_96 rfl ?_
                refine lv_lmul hx hb dX9_chanceOf_97 ?_
                refine lv_lload hx hb dX9_chanceOf_98 (lv_at hl 0 rfl) ?_
                refine lv_lmul hx hb dX9_chanceOf_100 ?_
                refine lv_ladd hx hb dX9_chanceOf_101 ?_
                refine lv_lstore_n (lv' := [(3, .long (y3_26 + ((((chance_1 (y5_12 : Int32).toNatClampNeg) * ((r_5 : Int32).toInt64)) * (((10 - (risk (y6_26 : Int32).toNatClampNeg)) : Int32).toInt64)) * (r_3 - r_4)))), (7, .long (r_3 - r_4)), (0, .ref a0), (1, .int x1), (2, .int x2), (5, .int y5_12), (6, .int y6_26)]) hx hb dX9_chanceOf_102 rfl hl (by decide) rfl (fun ls hl => ?_)
                refine lv_iinc (v := (y6_26 + 1)) (lv' := [(6, .int (y6_26 + 1)), (3, .long (y3_26 + ((((chance_1 (y5_12 : Int32).toNatClampNeg) * ((r_5 : Int32).toInt64)) * (((10 - (risk (y6_26 : Int32).toNatClampNeg)) : Int32).toInt64)) * (r_3 - r_4)))), (7, .long (r_3 - r_4)), (0, .ref a0), (1, .int x1), (2, .int x2), (5, .int y5_12)]) hx hb dX9_chanceOf_103 hl (k := 6) rfl (by rfl) (by decide) rfl (fun ls hl => ?_)
                refine lv_goto (tgt := 26) hx hb dX9_chanceOf_106 (by decide) ?_
                exact ih _ _ _ _ hf hk _ _ _ hP hD hS (lv_sub hl [3, 4, 5, 1, 6, 0] rfl)
              · have hf := o_f hc hf
                refine lv_lconst (v := 1) hx hb dX9_chanceOf_41 (by decide) ?_
                refine lv_goto (tgt := 66) hx hb dX9_chanceOf_42 (by decide) ?_
                refine lv_lstore (lv' := [(7, .long 1), (0, .ref a0), (1, .int x1), (2, .int x2), (3, .long y3_26), (5, .int y5_12), (6, .int y6_26)]) hx hb dX9_chanceOf_66 hl (by decide) rfl (fun ls hl => ?_)
                refine lv_lload_n hx hb dX9_chanceOf_68 rfl (lv_at hl 4 rfl) ?_
                refine lv_aload_n hx hb dX9_chanceOf_69 rfl (lv_at hl 1 rfl) ?_
                refine va_get (D := D) (ci := 9) (v := .ref a21) (C := RX9) (T := TX9) (N := 45) hx hb hts in_X9 hown hK hP 0 rfl rfl 36 (by decide) lk_78 (fun _ h9 => h9) rfl dX9_chanceOf_70 ?_
                refine lv_iload hx hb dX9_chanceOf_73 (lv_at hl 5 rfl) ?_
                obtain ⟨hi, hf⟩ := gIx_some hf
                refine va_lald hx hb hK hP 2 2 rfl rfl hi dX9_chanceOf_75 ?_
                refine lv_aload_n hx hb dX9_chanceOf_76 rfl (lv_at hl 1 rfl) ?_
                refine lv_iload hx hb dX9_chanceOf_77 (lv_at hl 5 rfl) ?_
                refine lv_iload hx hb dX9_chanceOf_79 (lv_at hl 6 rfl) ?_
                obtain ⟨r_6, hc, hf⟩ := ob1_some hf
                refine g_VI (As := [.int y5_12, .int y6_26]) (rest := [.long (chance_1 (y5_12 : Int32).toNatClampNeg), .long y3_26]) (ws' := (w_X9_chanceOf kc a0 a1 a2 a3 a4 a5 a6 a7 a8 a9 a10 a11 a12 a13 a14 a15 a16 a17 a18 a19 a20 a21 a22 a23 a24 a25 a26 a27 a28 thrown loftSize startWind seed draftLoft draftStart draftSeed length textSize start next_ token value error errorAt number undos now chance_1 turns turnFrom turnWeight chanceNext_2 turnTo winds regions named namedWeight namedRegion risk comesBack)) ⟨hx, hb, hml, hown, hts⟩ hN hK hP hD hS hA (c_X9_weightBy l D kc N a0 a1 a2 a3 a4 a5 a6 a7 a8 a9 a10 a11 a12 a13 a14 a15 a16 a17 a18 a19 a20 a21 a22 a23 a24 a25 a26 a27 a28 thrown loftSize startWind seed draftLoft draftStart draftSeed length textSize start next_ token value error errorAt number undos named namedWeight namedRegion y5_12 y6_26 r_6 hc) (cwV 2 hts gX9_chanceOf_X9_weightBy rfl rfl rfl (by decide +kernel) ⟨Nat.le_of_ble_eq_true rfl, Nat.le_of_ble_eq_true rfl⟩) [0, 10, 11, 12] [1, 2, 3, 4, 5, 6, 7, 8, 9, 13, 14] [11, 0, 1, 2, 3, 4, 5, 6, 7, 8, 12, 13, 14, 9, 10] (by exact ⟨rfl, rfl, by decide, rfl⟩) 0 9 rfl rfl rfl rfl hl.1 rfl (Nat.le_of_ble_eq_true rfl) dX9_chanceOf_81 ⟨Nat.le_refl _, Nat.le_refl _⟩ (fun H locs hP hD hS => ?_)
                refine lv_i2l (v := (r_6 : Int32).toInt64) hx hb dX9_chanceOf_84 rfl ?_
                refine lv_lmul hx hb dX9_chanceOf_85 ?_
                refine lv_bipush (v := 10) hx hb dX9_chanceOf_86 (by decide) ?_
                refine lv_aload_n hx hb dX9_chanceOf_88 rfl (lv_at hl 1 rfl) ?_
                refine va_get (D := D) (ci := 9) (v := .ref a3) (C := RX9) (T := TX9) (N := 45) hx hb hts in_X9 hown hK hP 0 rfl rfl 3 (by decide) lk_20 (fun _ h9 => h9) rfl dX9_chanceOf_89 ?_
                refine lv_iload hx hb dX9_chanceOf_92 (lv_at hl 6 rfl) ?_
                obtain ⟨hi, hf⟩ := gIx_some hf
                refine va_iald hx hb hK hP 13 1 rfl rfl hi dX9_chanceOf_94 ?_
                refine lv_isub hx hb dX9_chanceOf_95 ?_
                refine lv_i2l (v := ((10 - (risk (y6_26 : Int32).toNatClampNeg)) : Int32).toInt64) hx hb dX9_chanceOf_96 rfl ?_
                refine lv_lmul hx hb dX9_chanceOf_97 ?_
                refine lv_lload hx hb dX9_chanceOf_98 (lv_at hl 0 rfl) ?_
                refine lv_lmul hx hb dX9_chanceOf_100 ?_
                refine lv_ladd hx hb dX9_chanceOf_101 ?_
                refine lv_lstore_n (lv' := [(3, .long (y3_26 + ((((chance_1 (y5_12 : Int32).toNatClampNeg) * ((r_6 : Int32).toInt64)) * (((10 - (risk (y6_26 : Int32).toNatClampNeg)) : Int32).toInt64)) * 1))), (7, .long 1), (0, .ref a0), (1, .int x1), (2, .int x2), (5, .int y5_12), (6, .int y6_26)]) hx hb dX9_chanceOf_102 rfl hl (by decide) rfl (fun ls hl => ?_)
                refine lv_iinc (v := (y6_26 + 1)) (lv' := [(6, .int (y6_26 + 1)), (3, .long (y3_26 + ((((chance_1 (y5_12 : Int32).toNatClampNeg) * ((r_6 : Int32).toInt64)) * (((10 - (risk (y6_26 : Int32).toNatClampNeg)) : Int32).toInt64)) * 1))), (7, .long 1), (0, .ref a0), (1, .int x1), (2, .int x2), (5, .int y5_12)]) hx hb dX9_chanceOf_103 hl (k := 6) rfl (by rfl) (by decide) rfl (fun ls hl => ?_)
                refine lv_goto (tgt := 26) hx hb dX9_chanceOf_106 (by decide) ?_
                exact ih _ _ _ _ hf hk _ _ _ hP hD hS (lv_sub hl [3, 4, 5, 1, 6, 0] rfl)
        obtain ⟨y6_26o, y3_26o, hc, hf⟩ := ob2_some hf
        refine L26 N _ _ _ _ hc (fun H locs ls hP hD hS hl => ?_) _ _ _ hP hD hS (lv_sub hl [1, 2, 3, 4, 5, 0] rfl)
        refine lv_iinc (v := (y5_12 + 1)) (lv' := [(5, .int (y5_12 + 1)), (0, .ref a0), (1, .int x1), (2, .int x2), (3, .long y3_26o), (6, .int y6_26o)]) hx hb dX9_chanceOf_109 hl (k := 4) rfl (by rfl) (by decide) rfl (fun ls hl => ?_)
        refine lv_goto (tgt := 12) hx hb dX9_chanceOf_112 (by decide) ?_
        exact ih _ _ _ _ hf hk _ _ _ hP hD hS (lv_sub hl [1, 2, 3, 4, 0] rfl)
  obtain ⟨y5_12o, y3_12o, hc, hf⟩ := ob2_some hf
  refine L12 N _ _ _ _ hc (fun H locs ls hP hD hS hl => ?_) _ _ _ hP hD hS (lv_sub hl [2, 3, 4, 1, 0] rfl)
  refine lv_lload_n hx hb dX9_chanceOf_115 rfl (lv_at hl 3 rfl) ?_
  cases hf
  exact kR _ _ _ _ hP hD hS dX9_chanceOf_116
abbrev w_X9_deliveryChance (kc : Nat → ClassId) (a0 a1 a2 a3 a4 a5 a6 a7 a8 a9 a10 a11 a12 a13 a14 a15 a16 a17 a18 a19 a20 a21 a22 a23 a24 a25 a26 a27 a28 : Nat) (thrown : Int32) (loftSize : Int32) (startWind : Int32) (seed : Int32) (draftLoft : Int32) (draftStart : Int32) (draftSeed : Int32) (length : Int32) (textSize : Int32) (start : Int32) (next_ : Int32) (token : Int32) (value : Int32) (error : Int32) (errorAt : Int32) (number : Int32) (undos : Int32) (winds : Nat → Int32) (now : Nat → Int32) (chance : Nat → Int64) (turns : Nat → Int32) (turnFrom : Nat → Int32) (turnWeight : Nat → Int32) (chanceNext : Nat → Int64) (turnTo : Nat → Int32) (regions : Nat → Int32) (named : Nat → Int32) (namedWeight : Nat → Int32) (namedRegion : Nat → Int32) (risk : Nat → Int32) (comesBack : Nat → Int32) : va_W := [(a0, .inr (9, [.int thrown, .ref a1, .ref a2, .ref a3, .ref a4, .ref a5, .ref a6, .ref a7, .ref a8, .ref a9, .ref a10, .ref a11, .ref a12, .ref a13, .ref a14, .ref a15, .ref a16, .ref a17, .ref a18, .ref a19, .int loftSize, .int startWind, .int seed, .int draftLoft, .int draftStart, .int draftSeed, .ref a20, .int length, .int textSize, .int start, .int next_, .int token, .int value, .int error, .int errorAt, .int number, .ref a21, .ref a22, .ref a23, .ref a24, .ref a25, .int undos, .ref a26, .ref a27, .ref a28])), (a6, .inl (kc 1, 2, .inl winds)), (a1, .inl (kc 1, 213, .inl now)), (a21, .inl (kc 2, 6, .inr (.inl chance))), (a10, .inl (kc 1, 2, .inl turns)), (a11, .inl (kc 1, 60, .inl turnFrom)), (a13, .inl (kc 1, 60, .inl turnWeight)), (a22, .inl (kc 2, 6, .inr (.inl chanceNext))), (a12, .inl (kc 1, 60, .inl turnTo)), (a2, .inl (kc 1, 2, .inl regions)), (a7, .inl (kc 1, 12, .inl named)), (a9, .inl (kc 1, 96, .inl namedWeight)), (a8, .inl (kc 1, 96, .inl namedRegion)), (a3, .inl (kc 1, 16, .inl risk)), (a5, .inl (kc 1, 16, .inl comesBack))]
set_option maxHeartbeats 4000000 in
set_option maxRecDepth 100000 in
theorem c_X9_deliveryChance (l : Launch) (D : va_G) (kc : Nat → ClassId) (N : Nat) (a0 a1 a2 a3 a4 a5 a6 a7 a8 a9 a10 a11 a12 a13 a14 a15 a16 a17 a18 a19 a20 a21 a22 a23 a24 a25 a26 a27 a28 : Nat) (thrown : Int32) (loftSize : Int32) (startWind : Int32) (seed : Int32) (draftLoft : Int32) (draftStart : Int32) (draftSeed : Int32) (length : Int32) (textSize : Int32) (start : Int32) (next_ : Int32) (token : Int32) (value : Int32) (error : Int32) (errorAt : Int32) (number : Int32) (undos : Int32) (winds : Nat → Int32) (now : Nat → Int32) (chance : Nat → Int64) (turns : Nat → Int32) (turnFrom : Nat → Int32) (turnWeight : Nat → Int32) (chanceNext : Nat → Int64) (turnTo : Nat → Int32) (regions : Nat → Int32) (named : Nat → Int32) (namedWeight : Nat → Int32) (namedRegion : Nat → Int32) (risk : Nat → Int32) (comesBack : Nat → Int32) (x1 : Int32) (r_ : Int64) (thrown' : Int32) (chance' : Nat → Int64) (chanceNext' : Nat → Int64) (hf : f_X9_deliveryChance N winds now chance turns turnFrom turnWeight chanceNext turnTo regions named namedWeight namedRegion risk comesBack x1 = some (r_, thrown', chance', chanceNext')) : ML l yX9_deliveryChance wsX9_deliveryChance ({ frames := 3, cells := 0, slots := 0, locals := 75 }) D kc [.ref a0, .int x1] (w_X9_deliveryChance kc a0 a1 a2 a3 a4 a5 a6 a7 a8 a9 a10 a11 a12 a13 a14 a15 a16 a17 a18 a19 a20 a21 a22 a23 a24 a25 a26 a27 a28 thrown loftSize startWind seed draftLoft draftStart draftSeed length textSize start next_ token value error errorAt number undos winds now chance turns turnFrom turnWeight chanceNext turnTo regions named namedWeight namedRegion risk comesBack) (w_X9_deliveryChance kc a0 a1 a2 a3 a4 a5 a6 a7 a8 a9 a10 a11 a12 a13 a14 a15 a16 a17 a18 a19 a20 a21 a22 a23 a24 a25 a26 a27 a28 thrown' loftSize startWind seed draftLoft draftStart draftSeed length textSize start next_ token value error errorAt number undos winds now chance' turns turnFrom turnWeight chanceNext' turnTo regions named namedWeight namedRegion risk comesBack) r_ := by
  refine gM_L (cc := cX9_deliveryChance) (maxL := 2) (by decide) rfl (Nat.le_of_ble_eq_true rfl) ?_
  intro p e s m below meth c A ls Q hx hb hml hown hts hN hK hP hD hA hl kR
  have hS : va_S A s.heap s.heap [] := va_S.rf
  have hl : lv_has ls 2 [(0, .ref a0), (1, .int x1)] := hl
  have in_X9 : ∀ w ∈ u_ws RX9 TX9 45, w ∈ wsX9_deliveryChance := by decide +kernel
  have lk_1 := hts (.fieldLink RX9 1 "BalloonMailModel" "thrown" "I") (by decide +kernel)
  have lk_29 := hts (.fieldLink RX9 29 "BalloonMailModel" "winds" "[I") (by decide +kernel)
  unfold f_X9_deliveryChance at hf
  refine lv_aload_n hx hb dX9_deliveryChance_0 rfl (lv_at hl 0 rfl) ?_
  refine lv_iconst (v := 0) hx hb dX9_deliveryChance_1 (by decide) ?_
  refine va_put (D := D) (ci := 9) (v := .int 0) (ty := .int) (C := RX9) (T := TX9) (N := 45) hx hb hts in_X9 tyX9 tyX9_ok nmX9 hown hK hP hD hS 0 rfl rfl 0 (by decide) lk_1 (fun _ h9 => h9) rfl (by decide +kernel) rfl rfl (Nat.le_of_ble_eq_true rfl) dX9_deliveryChance_2 (fun H locs hP hD hS => ?_)
  have hP : va_P D vwCl (w_X9_deliveryChance kc a0 a1 a2 a3 a4 a5 a6 a7 a8 a9 a10 a11 a12 a13 a14 a15 a16 a17 a18 a19 a20 a21 a22 a23 a24 a25 a26 a27 a28 0 loftSize startWind seed draftLoft draftStart draftSeed length textSize start next_ token value error errorAt number undos winds now chance turns turnFrom turnWeight chanceNext turnTo regions named namedWeight namedRegion risk comesBack) H := hP
  have hD : va_D A (w_X9_deliveryChance kc a0 a1 a2 a3 a4 a5 a6 a7 a8 a9 a10 a11 a12 a13 a14 a15 a16 a17 a18 a19 a20 a21 a22 a23 a24 a25 a26 a27 a28 0 loftSize startWind seed draftLoft draftStart draftSeed length textSize start next_ token value error errorAt number undos winds now chance turns turnFrom turnWeight chanceNext turnTo regions named namedWeight namedRegion risk comesBack) := hD
  refine lv_iload_n hx hb dX9_deliveryChance_5 rfl (lv_at hl 1 rfl) ?_
  obtain ⟨r_1, hc, hf⟩ := ob1_some hf
  refine g_SZ (As := [.int x1]) (rest := []) (ws' := (w_X9_deliveryChance kc a0 a1 a2 a3 a4 a5 a6 a7 a8 a9 a10 a11 a12 a13 a14 a15 a16 a17 a18 a19 a20 a21 a22 a23 a24 a25 a26 a27 a28 0 loftSize startWind seed draftLoft draftStart draftSeed length textSize start next_ token value error errorAt number undos winds now chance turns turnFrom turnWeight chanceNext turnTo regions named namedWeight namedRegion risk comesBack)) ⟨hx, hb, hml, hown, hts⟩ hN hK hP hD hS hA (c_X9_areDays l D kc N x1 r_1 hc) (va_cwS 1 hts gX9_deliveryChance_X9_areDays rfl rfl rfl (by decide +kernel) ⟨Nat.le_of_ble_eq_true rfl, Nat.le_of_ble_eq_true rfl⟩) [] [0, 1, 2, 3, 4, 5, 6, 7, 8, 9, 10, 11, 12, 13, 14] [0, 1, 2, 3, 4, 5, 6, 7, 8, 9, 10, 11, 12, 13, 14] (by exact ⟨rfl, rfl, by decide, rfl⟩) rfl hl.1 rfl (Nat.le_of_ble_eq_true rfl) dX9_deliveryChance_6 ⟨Nat.le_refl _, Nat.le_refl _⟩ (fun H locs hz hP hD hS => ?_)
  have hz_2 := hz
  refine lv_if_eq (tgt := 21) hx hb dX9_deliveryChance_9 (by decide) (fun hc => ?_) (fun hc => ?_)
  · have hf := o_t hc hf
    refine lv_ldc2 (v := (-1)) hx hb hown (hts (.constantLong RX9 261 (-1)) (by decide +kernel)) dX9_deliveryChance_21 ?_
    refine lv_goto (tgt := 33) hx hb dX9_deliveryChance_24 (by decide) ?_
    cases hf
    exact kR _ _ _ _ hP hD hS dX9_deliveryChance_33
  · have hf := o_f hc hf
    refine lv_aload_n hx hb dX9_deliveryChance_12 rfl (lv_at hl 0 rfl) ?_
    refine va_get (D := D) (ci := 9) (v := .ref a6) (C := RX9) (T := TX9) (N := 45) hx hb hts in_X9 hown hK hP 0 rfl rfl 6 (by decide) lk_29 (fun _ h9 => h9) rfl dX9_deliveryChance_13 ?_
    refine lv_iconst (v := 0) hx hb dX9_deliveryChance_16 (by decide) ?_
    obtain ⟨hi, hf⟩ := gIx_some hf
    refine va_iald hx hb hK hP 1 1 rfl rfl hi dX9_deliveryChance_17 ?_
    refine lv_if_ne (tgt := 27) hx hb dX9_deliveryChance_18 (by decide) (fun hc => ?_) (fun hc => ?_)
    · have hf := o_f hc hf
      refine lv_aload_n hx hb dX9_deliveryChance_27 rfl (lv_at hl 0 rfl) ?_
      refine lv_iconst (v := (-1)) hx hb dX9_deliveryChance_28 (by decide) ?_
      refine lv_iload_n hx hb dX9_deliveryChance_29 rfl (lv_at hl 1 rfl) ?_
      obtain ⟨r_3, chance_4, chanceNext_5, hc, hf⟩ := ob3_some hf
      refine g_VL (As := [.int (-1), .int x1]) (rest := []) (ws' := (w_X9_deliveryChance kc a0 a1 a2 a3 a4 a5 a6 a7 a8 a9 a10 a11 a12 a13 a14 a15 a16 a17 a18 a19 a20 a21 a22 a23 a24 a25 a26 a27 a28 0 loftSize startWind seed draftLoft draftStart draftSeed length textSize start next_ token value error errorAt number undos winds now chance_4 turns turnFrom turnWeight chanceNext_5 turnTo regions named namedWeight namedRegion risk comesBack)) ⟨hx, hb, hml, hown, hts⟩ hN hK hP hD hS hA (c_X9_chanceOf l D kc N a0 a1 a2 a3 a4 a5 a6 a7 a8 a9 a10 a11 a12 a13 a14 a15 a16 a17 a18 a19 a20 a21 a22 a23 a24 a25 a26 a27 a28 0 loftSize startWind seed draftLoft draftStart draftSeed length textSize start next_ token value error errorAt number undos now chance turns turnFrom turnWeight chanceNext turnTo winds regions named namedWeight namedRegion risk comesBack (-1) x1 r_3 chance_4 chanceNext_5 hc) (cwV 2 hts gX9_deliveryChance_X9_chanceOf rfl rfl rfl (by decide +kernel) ⟨Nat.le_of_ble_eq_true rfl, Nat.le_of_ble_eq_true rfl⟩) [0, 2, 3, 4, 5, 6, 7, 8, 1, 9, 10, 11, 12, 13, 14] [] [0, 8, 1, 2, 3, 4, 5, 6, 7, 9, 10, 11, 12, 13, 14] (by exact ⟨rfl, rfl, by decide, rfl⟩) 0 9 rfl rfl rfl rfl hl.1 rfl (Nat.le_of_ble_eq_true rfl) dX9_deliveryChance_30 ⟨Nat.le_refl _, Nat.le_refl _⟩ (fun H locs hP hD hS => ?_)
      cases hf
      exact kR _ _ _ _ hP hD hS dX9_deliveryChance_33
    · have hf := o_t hc hf
      refine lv_ldc2 (v := (-1)) hx hb hown (hts (.constantLong RX9 261 (-1)) (by decide +kernel)) dX9_deliveryChance_21 ?_
      refine lv_goto (tgt := 33) hx hb dX9_deliveryChance_24 (by decide) ?_
      cases hf
      exact kR _ _ _ _ hP hD hS dX9_deliveryChance_33
abbrev w_X9_mayAsk (kc : Nat → ClassId) (a0 a1 a2 a3 a4 a5 a6 a7 a8 a9 a10 a11 a12 a13 a14 a15 a16 a17 a18 a19 a20 a21 a22 a23 a24 a25 a26 a27 a28 : Nat) (thrown : Int32) (loftSize : Int32) (startWind : Int32) (seed : Int32) (draftLoft : Int32) (draftStart : Int32) (draftSeed : Int32) (length : Int32) (textSize : Int32) (start : Int32) (next_ : Int32) (token : Int32) (value : Int32) (error : Int32) (errorAt : Int32) (number : Int32) (undos : Int32) (winds : Nat → Int32) : va_W := [(a0, .inr (9, [.int thrown, .ref a1, .ref a2, .ref a3, .ref a4, .ref a5, .ref a6, .ref a7, .ref a8, .ref a9, .ref a10, .ref a11, .ref a12, .ref a13, .ref a14, .ref a15, .ref a16, .ref a17, .ref a18, .ref a19, .int loftSize, .int startWind, .int seed, .int draftLoft, .int draftStart, .int draftSeed, .ref a20, .int length, .int textSize, .int start, .int next_, .int token, .int value, .int error, .int errorAt, .int number, .ref a21, .ref a22, .ref a23, .ref a24, .ref a25, .int undos, .ref a26, .ref a27, .ref a28])), (a6, .inl (kc 1, 2, .inl winds))]
set_option maxHeartbeats 4000000 in
set_option maxRecDepth 100000 in
theorem c_X9_mayAsk (l : Launch) (D : va_G) (kc : Nat → ClassId) (N : Nat) (a0 a1 a2 a3 a4 a5 a6 a7 a8 a9 a10 a11 a12 a13 a14 a15 a16 a17 a18 a19 a20 a21 a22 a23 a24 a25 a26 a27 a28 : Nat) (thrown : Int32) (loftSize : Int32) (startWind : Int32) (seed : Int32) (draftLoft : Int32) (draftStart : Int32) (draftSeed : Int32) (length : Int32) (textSize : Int32) (start : Int32) (next_ : Int32) (token : Int32) (value : Int32) (error : Int32) (errorAt : Int32) (number : Int32) (undos : Int32) (winds : Nat → Int32) (x1 : Int32) (x2 : Int32) (r_ : Int32) (hf : f_X9_mayAsk N winds x1 x2 = some r_) : MZ l yX9_mayAsk wsX9_mayAsk ({ frames := 2, cells := 0, slots := 0, locals := 42 }) D kc [.ref a0, .int x1, .int x2] (w_X9_mayAsk kc a0 a1 a2 a3 a4 a5 a6 a7 a8 a9 a10 a11 a12 a13 a14 a15 a16 a17 a18 a19 a20 a21 a22 a23 a24 a25 a26 a27 a28 thrown loftSize startWind seed draftLoft draftStart draftSeed length textSize start next_ token value error errorAt number undos winds) (w_X9_mayAsk kc a0 a1 a2 a3 a4 a5 a6 a7 a8 a9 a10 a11 a12 a13 a14 a15 a16 a17 a18 a19 a20 a21 a22 a23 a24 a25 a26 a27 a28 thrown loftSize startWind seed draftLoft draftStart draftSeed length textSize start next_ token value error errorAt number undos winds) r_ := by
  refine gM_Z (cc := cX9_mayAsk) (maxL := 3) (by decide) rfl (Nat.le_of_ble_eq_true rfl) ?_
  intro p e s m below meth c A ls Q hx hb hml hown hts hN hK hP hD hA hl kR
  have hS : va_S A s.heap s.heap [] := va_S.rf
  have hl : lv_has ls 3 [(0, .ref a0), (1, .int x1), (2, .int x2)] := hl
  have in_X9 : ∀ w ∈ u_ws RX9 TX9 45, w ∈ wsX9_mayAsk := by decide +kernel
  have lk_29 := hts (.fieldLink RX9 29 "BalloonMailModel" "winds" "[I") (by decide +kernel)
  unfold f_X9_mayAsk at hf
  refine lv_iload_n hx hb dX9_mayAsk_0 rfl (lv_at hl 1 rfl) ?_
  refine lv_iconst (v := 0) hx hb dX9_mayAsk_1 (by decide) ?_
  refine lv_iconst (v := 4) hx hb dX9_mayAsk_2 (by decide) ?_
  obtain ⟨r_1, hc, hf⟩ := ob1_some hf
  refine g_SZ (As := [.int x1, .int 0, .int 4]) (rest := []) (ws' := (w_X9_mayAsk kc a0 a1 a2 a3 a4 a5 a6 a7 a8 a9 a10 a11 a12 a13 a14 a15 a16 a17 a18 a19 a20 a21 a22 a23 a24 a25 a26 a27 a28 thrown loftSize startWind seed draftLoft draftStart draftSeed length textSize start next_ token value error errorAt number undos winds)) ⟨hx, hb, hml, hown, hts⟩ hN hK hP hD hS hA (c_X9_within l D kc N x1 0 4 r_1 hc) (va_cwS 3 hts gX9_mayAsk_X9_within rfl rfl rfl (by decide +kernel) ⟨Nat.le_of_ble_eq_true rfl, Nat.le_of_ble_eq_true rfl⟩) [] [0, 1] [0, 1] (by exact ⟨rfl, rfl, by decide, rfl⟩) rfl hl.1 rfl (Nat.le_of_ble_eq_true rfl) dX9_mayAsk_3 ⟨Nat.le_refl _, Nat.le_refl _⟩ (fun H locs hz hP hD hS => ?_)
  have hz_2 := hz
  refine lv_if_eq (tgt := 29) hx hb dX9_mayAsk_6 (by decide) (fun hc => ?_) (fun hc => ?_)
  · have hf := o_t hc hf
    refine lv_iconst (v := 0) hx hb dX9_mayAsk_29 (by decide) ?_
    cases hf
    exact kR _ _ _ _ (Or.inl rfl) hP hD hS dX9_mayAsk_30
  · have hf := o_f hc hf
    refine lv_iload_n hx hb dX9_mayAsk_9 rfl (lv_at hl 2 rfl) ?_
    obtain ⟨r_3, hc, hf⟩ := ob1_some hf
    refine g_SZ (As := [.int x2]) (rest := []) (ws' := (w_X9_mayAsk kc a0 a1 a2 a3 a4 a5 a6 a7 a8 a9 a10 a11 a12 a13 a14 a15 a16 a17 a18 a19 a20 a21 a22 a23 a24 a25 a26 a27 a28 thrown loftSize startWind seed draftLoft draftStart draftSeed length textSize start next_ token value error errorAt number undos winds)) ⟨hx, hb, hml, hown, hts⟩ hN hK hP hD hS hA (c_X9_areDays l D kc N x2 r_3 hc) (va_cwS 1 hts gX9_mayAsk_X9_areDays rfl rfl rfl (by decide +kernel) ⟨Nat.le_of_ble_eq_true rfl, Nat.le_of_ble_eq_true rfl⟩) [] [0, 1] [0, 1] (by exact ⟨rfl, rfl, by decide, rfl⟩) rfl hl.1 rfl (Nat.le_of_ble_eq_true rfl) dX9_mayAsk_10 ⟨Nat.le_refl _, Nat.le_refl _⟩ (fun H locs hz hP hD hS => ?_)
    have hz_4 := hz
    refine lv_if_eq (tgt := 29) hx hb dX9_mayAsk_13 (by decide) (fun hc => ?_) (fun hc => ?_)
    · have hf := o_t hc hf
      refine lv_iconst (v := 0) hx hb dX9_mayAsk_29 (by decide) ?_
      cases hf
      exact kR _ _ _ _ (Or.inl rfl) hP hD hS dX9_mayAsk_30
    · have hf := o_f hc hf
      refine lv_aload_n hx hb dX9_mayAsk_16 rfl (lv_at hl 0 rfl) ?_
      refine va_get (D := D) (ci := 9) (v := .ref a6) (C := RX9) (T := TX9) (N := 45) hx hb hts in_X9 hown hK hP 0 rfl rfl 6 (by decide) lk_29 (fun _ h9 => h9) rfl dX9_mayAsk_17 ?_
      refine lv_iconst (v := 0) hx hb dX9_mayAsk_20 (by decide) ?_
      obtain ⟨hi, hf⟩ := gIx_some hf
      refine va_iald hx hb hK hP 1 1 rfl rfl hi dX9_mayAsk_21 ?_
      refine lv_if_le (tgt := 29) hx hb dX9_mayAsk_22 (by decide) (fun hc => ?_) (fun hc => ?_)
      · have hf := o_t hc hf
        refine lv_iconst (v := 0) hx hb dX9_mayAsk_29 (by decide) ?_
        cases hf
        exact kR _ _ _ _ (Or.inl rfl) hP hD hS dX9_mayAsk_30
      · have hf := o_f hc hf
        refine lv_iconst (v := 1) hx hb dX9_mayAsk_25 (by decide) ?_
        refine lv_goto (tgt := 30) hx hb dX9_mayAsk_26 (by decide) ?_
        cases hf
        exact kR _ _ _ _ (Or.inr rfl) hP hD hS dX9_mayAsk_30
abbrev w_X9_answerChance (kc : Nat → ClassId) (a0 a1 a2 a3 a4 a5 a6 a7 a8 a9 a10 a11 a12 a13 a14 a15 a16 a17 a18 a19 a20 a21 a22 a23 a24 a25 a26 a27 a28 : Nat) (thrown : Int32) (loftSize : Int32) (startWind : Int32) (seed : Int32) (draftLoft : Int32) (draftStart : Int32) (draftSeed : Int32) (length : Int32) (textSize : Int32) (start : Int32) (next_ : Int32) (token : Int32) (value : Int32) (error : Int32) (errorAt : Int32) (number : Int32) (undos : Int32) (winds : Nat → Int32) (now : Nat → Int32) (chance : Nat → Int64) (turns : Nat → Int32) (turnFrom : Nat → Int32) (turnWeight : Nat → Int32) (chanceNext : Nat → Int64) (turnTo : Nat → Int32) (regions : Nat → Int32) (named : Nat → Int32) (namedWeight : Nat → Int32) (namedRegion : Nat → Int32) (risk : Nat → Int32) (comesBack : Nat → Int32) : va_W := [(a0, .inr (9, [.int thrown, .ref a1, .ref a2, .ref a3, .ref a4, .ref a5, .ref a6, .ref a7, .ref a8, .ref a9, .ref a10, .ref a11, .ref a12, .ref a13, .ref a14, .ref a15, .ref a16, .ref a17, .ref a18, .ref a19, .int loftSize, .int startWind, .int seed, .int draftLoft, .int draftStart, .int draftSeed, .ref a20, .int length, .int textSize, .int start, .int next_, .int token, .int value, .int error, .int errorAt, .int number, .ref a21, .ref a22, .ref a23, .ref a24, .ref a25, .int undos, .ref a26, .ref a27, .ref a28])), (a6, .inl (kc 1, 2, .inl winds)), (a1, .inl (kc 1, 213, .inl now)), (a21, .inl (kc 2, 6, .inr (.inl chance))), (a10, .inl (kc 1, 2, .inl turns)), (a11, .inl (kc 1, 60, .inl turnFrom)), (a13, .inl (kc 1, 60, .inl turnWeight)), (a22, .inl (kc 2, 6, .inr (.inl chanceNext))), (a12, .inl (kc 1, 60, .inl turnTo)), (a2, .inl (kc 1, 2, .inl regions)), (a7, .inl (kc 1, 12, .inl named)), (a9, .inl (kc 1, 96, .inl namedWeight)), (a8, .inl (kc 1, 96, .inl namedRegion)), (a3, .inl (kc 1, 16, .inl risk)), (a5, .inl (kc 1, 16, .inl comesBack))]
set_option maxHeartbeats 4000000 in
set_option maxRecDepth 100000 in
theorem c_X9_answerChance (l : Launch) (D : va_G) (kc : Nat → ClassId) (N : Nat) (a0 a1 a2 a3 a4 a5 a6 a7 a8 a9 a10 a11 a12 a13 a14 a15 a16 a17 a18 a19 a20 a21 a22 a23 a24 a25 a26 a27 a28 : Nat) (thrown : Int32) (loftSize : Int32) (startWind : Int32) (seed : Int32) (draftLoft : Int32) (draftStart : Int32) (draftSeed : Int32) (length : Int32) (textSize : Int32) (start : Int32) (next_ : Int32) (token : Int32) (value : Int32) (error : Int32) (errorAt : Int32) (number : Int32) (undos : Int32) (winds : Nat → Int32) (now : Nat → Int32) (chance : Nat → Int64) (turns : Nat → Int32) (turnFrom : Nat → Int32) (turnWeight : Nat → Int32) (chanceNext : Nat → Int64) (turnTo : Nat → Int32) (regions : Nat → Int32) (named : Nat → Int32) (namedWeight : Nat → Int32) (namedRegion : Nat → Int32) (risk : Nat → Int32) (comesBack : Nat → Int32) (x1 : Int32) (x2 : Int32) (r_ : Int64) (thrown' : Int32) (chance' : Nat → Int64) (chanceNext' : Nat → Int64) (hf : f_X9_answerChance N winds now chance turns turnFrom turnWeight chanceNext turnTo regions named namedWeight namedRegion risk comesBack x1 x2 = some (r_, thrown', chance', chanceNext')) : ML l yX9_answerChance wsX9_answerChance ({ frames := 3, cells := 0, slots := 0, locals := 75 }) D kc [.ref a0, .int x1, .int x2] (w_X9_answerChance kc a0 a1 a2 a3 a4 a5 a6 a7 a8 a9 a10 a11 a12 a13 a14 a15 a16 a17 a18 a19 a20 a21 a22 a23 a24 a25 a26 a27 a28 thrown loftSize startWind seed draftLoft draftStart draftSeed length textSize start next_ token value error errorAt number undos winds now chance turns turnFrom turnWeight chanceNext turnTo regions named namedWeight namedRegion risk comesBack) (w_X9_answerChance kc a0 a1 a2 a3 a4 a5 a6 a7 a8 a9 a10 a11 a12 a13 a14 a15 a16 a17 a18 a19 a20 a21 a22 a23 a24 a25 a26 a27 a28 thrown' loftSize startWind seed draftLoft draftStart draftSeed length textSize start next_ token value error errorAt number undos winds now chance' turns turnFrom turnWeight chanceNext' turnTo regions named namedWeight namedRegion risk comesBack) r_ := by
  refine gM_L (cc := cX9_answerChance) (maxL := 3) (by decide) rfl (Nat.le_of_ble_eq_true rfl) ?_
  intro p e s m below meth c A ls Q hx hb hml hown hts hN hK hP hD hA hl kR
  have hS : va_S A s.heap s.heap [] := va_S.rf
  have hl : lv_has ls 3 [(0, .ref a0), (1, .int x1), (2, .int x2)] := hl
  have in_X9 : ∀ w ∈ u_ws RX9 TX9 45, w ∈ wsX9_answerChance := by decide +kernel
  have lk_1 := hts (.fieldLink RX9 1 "BalloonMailModel" "thrown" "I") (by decide +kernel)
  unfold f_X9_answerChance at hf
  refine lv_aload_n hx hb dX9_answerChance_0 rfl (lv_at hl 0 rfl) ?_
  refine lv_iconst (v := 0) hx hb dX9_answerChance_1 (by decide) ?_
  refine va_put (D := D) (ci := 9) (v := .int 0) (ty := .int) (C := RX9) (T := TX9) (N := 45) hx hb hts in_X9 tyX9 tyX9_ok nmX9 hown hK hP hD hS 0 rfl rfl 0 (by decide) lk_1 (fun _ h9 => h9) rfl (by decide +kernel) rfl rfl (Nat.le_of_ble_eq_true rfl) dX9_answerChance_2 (fun H locs hP hD hS => ?_)
  have hP : va_P D vwCl (w_X9_answerChance kc a0 a1 a2 a3 a4 a5 a6 a7 a8 a9 a10 a11 a12 a13 a14 a15 a16 a17 a18 a19 a20 a21 a22 a23 a24 a25 a26 a27 a28 0 loftSize startWind seed draftLoft draftStart draftSeed length textSize start next_ token value error errorAt number undos winds now chance turns turnFrom turnWeight chanceNext turnTo regions named namedWeight namedRegion risk comesBack) H := hP
  have hD : va_D A (w_X9_answerChance kc a0 a1 a2 a3 a4 a5 a6 a7 a8 a9 a10 a11 a12 a13 a14 a15 a16 a17 a18 a19 a20 a21 a22 a23 a24 a25 a26 a27 a28 0 loftSize startWind seed draftLoft draftStart draftSeed length textSize start next_ token value error errorAt number undos winds now chance turns turnFrom turnWeight chanceNext turnTo regions named namedWeight namedRegion risk comesBack) := hD
  refine lv_aload_n hx hb dX9_answerChance_5 rfl (lv_at hl 0 rfl) ?_
  refine lv_iload_n hx hb dX9_answerChance_6 rfl (lv_at hl 1 rfl) ?_
  refine lv_iload_n hx hb dX9_answerChance_7 rfl (lv_at hl 2 rfl) ?_
  obtain ⟨r_1, hc, hf⟩ := ob1_some hf
  refine g_VZ (As := [.int x1, .int x2]) (rest := []) (ws' := (w_X9_answerChance kc a0 a1 a2 a3 a4 a5 a6 a7 a8 a9 a10 a11 a12 a13 a14 a15 a16 a17 a18 a19 a20 a21 a22 a23 a24 a25 a26 a27 a28 0 loftSize startWind seed draftLoft draftStart draftSeed length textSize start next_ token value error errorAt number undos winds now chance turns turnFrom turnWeight chanceNext turnTo regions named namedWeight namedRegion risk comesBack)) ⟨hx, hb, hml, hown, hts⟩ hN hK hP hD hS hA (c_X9_mayAsk l D kc N a0 a1 a2 a3 a4 a5 a6 a7 a8 a9 a10 a11 a12 a13 a14 a15 a16 a17 a18 a19 a20 a21 a22 a23 a24 a25 a26 a27 a28 0 loftSize startWind seed draftLoft draftStart draftSeed length textSize start next_ token value error errorAt number undos winds x1 x2 r_1 hc) (cwV 2 hts gX9_answerChance_X9_mayAsk rfl rfl rfl (by decide +kernel) ⟨Nat.le_of_ble_eq_true rfl, Nat.le_of_ble_eq_true rfl⟩) [0, 1] [2, 3, 4, 5, 6, 7, 8, 9, 10, 11, 12, 13, 14] [13, 14, 0, 1, 2, 3, 4, 5, 6, 7, 8, 9, 10, 11, 12] (by exact ⟨rfl, rfl, by decide, rfl⟩) 0 9 rfl rfl rfl rfl hl.1 rfl (Nat.le_of_ble_eq_true rfl) dX9_answerChance_8 ⟨Nat.le_refl _, Nat.le_refl _⟩ (fun H locs hz hP hD hS => ?_)
  have hz_2 := hz
  refine lv_if_eq (tgt := 23) hx hb dX9_answerChance_11 (by decide) (fun hc => ?_) (fun hc => ?_)
  · have hf := o_t hc hf
    refine lv_ldc2 (v := (-1)) hx hb hown (hts (.constantLong RX9 261 (-1)) (by decide +kernel)) dX9_answerChance_23 ?_
    cases hf
    exact kR _ _ _ _ hP hD hS dX9_answerChance_26
  · have hf := o_f hc hf
    refine lv_aload_n hx hb dX9_answerChance_14 rfl (lv_at hl 0 rfl) ?_
    refine lv_iload_n hx hb dX9_answerChance_15 rfl (lv_at hl 1 rfl) ?_
    refine lv_iload_n hx hb dX9_answerChance_16 rfl (lv_at hl 2 rfl) ?_
    obtain ⟨r_3, chance_4, chanceNext_5, hc, hf⟩ := ob3_some hf
    refine g_VL (As := [.int x1, .int x2]) (rest := []) (ws' := (w_X9_answerChance kc a0 a1 a2 a3 a4 a5 a6 a7 a8 a9 a10 a11 a12 a13 a14 a15 a16 a17 a18 a19 a20 a21 a22 a23 a24 a25 a26 a27 a28 0 loftSize startWind seed draftLoft draftStart draftSeed length textSize start next_ token value error errorAt number undos winds now chance_4 turns turnFrom turnWeight chanceNext_5 turnTo regions named namedWeight namedRegion risk comesBack)) ⟨hx, hb, hml, hown, hts⟩ hN hK hP hD hS hA (c_X9_chanceOf l D kc N a0 a1 a2 a3 a4 a5 a6 a7 a8 a9 a10 a11 a12 a13 a14 a15 a16 a17 a18 a19 a20 a21 a22 a23 a24 a25 a26 a27 a28 0 loftSize startWind seed draftLoft draftStart draftSeed length textSize start next_ token value error errorAt number undos now chance turns turnFrom turnWeight chanceNext turnTo winds regions named namedWeight namedRegion risk comesBack x1 x2 r_3 chance_4 chanceNext_5 hc) (cwV 2 hts gX9_answerChance_X9_chanceOf rfl rfl rfl (by decide +kernel) ⟨Nat.le_of_ble_eq_true rfl, Nat.le_of_ble_eq_true rfl⟩) [0, 2, 3, 4, 5, 6, 7, 8, 1, 9, 10, 11, 12, 13, 14] [] [0, 8, 1, 2, 3, 4, 5, 6, 7, 9, 10, 11, 12, 13, 14] (by exact ⟨rfl, rfl, by decide, rfl⟩) 0 9 rfl rfl rfl rfl hl.1 rfl (Nat.le_of_ble_eq_true rfl) dX9_answerChance_17 ⟨Nat.le_refl _, Nat.le_refl _⟩ (fun H locs hP hD hS => ?_)
    refine lv_goto (tgt := 26) hx hb dX9_answerChance_20 (by decide) ?_
    cases hf
    exact kR _ _ _ _ hP hD hS dX9_answerChance_26
abbrev w_X9_answerPermille (kc : Nat → ClassId) (a0 a1 a2 a3 a4 a5 a6 a7 a8 a9 a10 a11 a12 a13 a14 a15 a16 a17 a18 a19 a20 a21 a22 a23 a24 a25 a26 a27 a28 : Nat) (thrown : Int32) (loftSize : Int32) (startWind : Int32) (seed : Int32) (draftLoft : Int32) (draftStart : Int32) (draftSeed : Int32) (length : Int32) (textSize : Int32) (start : Int32) (next_ : Int32) (token : Int32) (value : Int32) (error : Int32) (errorAt : Int32) (number : Int32) (undos : Int32) (winds : Nat → Int32) (now : Nat → Int32) (chance : Nat → Int64) (turns : Nat → Int32) (turnFrom : Nat → Int32) (turnWeight : Nat → Int32) (chanceNext : Nat → Int64) (turnTo : Nat → Int32) (regions : Nat → Int32) (named : Nat → Int32) (namedWeight : Nat → Int32) (namedRegion : Nat → Int32) (risk : Nat → Int32) (comesBack : Nat → Int32) : va_W := [(a0, .inr (9, [.int thrown, .ref a1, .ref a2, .ref a3, .ref a4, .ref a5, .ref a6, .ref a7, .ref a8, .ref a9, .ref a10, .ref a11, .ref a12, .ref a13, .ref a14, .ref a15, .ref a16, .ref a17, .ref a18, .ref a19, .int loftSize, .int startWind, .int seed, .int draftLoft, .int draftStart, .int draftSeed, .ref a20, .int length, .int textSize, .int start, .int next_, .int token, .int value, .int error, .int errorAt, .int number, .ref a21, .ref a22, .ref a23, .ref a24, .ref a25, .int undos, .ref a26, .ref a27, .ref a28])), (a6, .inl (kc 1, 2, .inl winds)), (a1, .inl (kc 1, 213, .inl now)), (a21, .inl (kc 2, 6, .inr (.inl chance))), (a10, .inl (kc 1, 2, .inl turns)), (a11, .inl (kc 1, 60, .inl turnFrom)), (a13, .inl (kc 1, 60, .inl turnWeight)), (a22, .inl (kc 2, 6, .inr (.inl chanceNext))), (a12, .inl (kc 1, 60, .inl turnTo)), (a2, .inl (kc 1, 2, .inl regions)), (a7, .inl (kc 1, 12, .inl named)), (a9, .inl (kc 1, 96, .inl namedWeight)), (a8, .inl (kc 1, 96, .inl namedRegion)), (a3, .inl (kc 1, 16, .inl risk)), (a5, .inl (kc 1, 16, .inl comesBack))]
set_option maxHeartbeats 4000000 in
set_option maxRecDepth 100000 in
theorem c_X9_answerPermille (l : Launch) (D : va_G) (kc : Nat → ClassId) (N : Nat) (a0 a1 a2 a3 a4 a5 a6 a7 a8 a9 a10 a11 a12 a13 a14 a15 a16 a17 a18 a19 a20 a21 a22 a23 a24 a25 a26 a27 a28 : Nat) (thrown : Int32) (loftSize : Int32) (startWind : Int32) (seed : Int32) (draftLoft : Int32) (draftStart : Int32) (draftSeed : Int32) (length : Int32) (textSize : Int32) (start : Int32) (next_ : Int32) (token : Int32) (value : Int32) (error : Int32) (errorAt : Int32) (number : Int32) (undos : Int32) (winds : Nat → Int32) (now : Nat → Int32) (chance : Nat → Int64) (turns : Nat → Int32) (turnFrom : Nat → Int32) (turnWeight : Nat → Int32) (chanceNext : Nat → Int64) (turnTo : Nat → Int32) (regions : Nat → Int32) (named : Nat → Int32) (namedWeight : Nat → Int32) (namedRegion : Nat → Int32) (risk : Nat → Int32) (comesBack : Nat → Int32) (x1 : Int32) (x2 : Int32) (r_ : Int32) (thrown' : Int32) (chance' : Nat → Int64) (chanceNext' : Nat → Int64) (hf : f_X9_answerPermille N winds now chance turns turnFrom turnWeight chanceNext turnTo regions named namedWeight namedRegion risk comesBack x1 x2 = some (r_, thrown', chance', chanceNext')) : MI l yX9_answerPermille wsX9_answerPermille ({ frames := 3, cells := 0, slots := 0, locals := 75 }) D kc [.ref a0, .int x1, .int x2] (w_X9_answerPermille kc a0 a1 a2 a3 a4 a5 a6 a7 a8 a9 a10 a11 a12 a13 a14 a15 a16 a17 a18 a19 a20 a21 a22 a23 a24 a25 a26 a27 a28 thrown loftSize startWind seed draftLoft draftStart draftSeed length textSize start next_ token value error errorAt number undos winds now chance turns turnFrom turnWeight chanceNext turnTo regions named namedWeight namedRegion risk comesBack) (w_X9_answerPermille kc a0 a1 a2 a3 a4 a5 a6 a7 a8 a9 a10 a11 a12 a13 a14 a15 a16 a17 a18 a19 a20 a21 a22 a23 a24 a25 a26 a27 a28 thrown' loftSize startWind seed draftLoft draftStart draftSeed length textSize start next_ token value error errorAt number undos winds now chance' turns turnFrom turnWeight chanceNext' turnTo regions named namedWeight namedRegion risk comesBack) r_ := by
  refine gM_I (cc := cX9_answerPermille) (maxL := 3) (by decide) rfl (Nat.le_of_ble_eq_true rfl) ?_
  intro p e s m below meth c A ls Q hx hb hml hown hts hN hK hP hD hA hl kR
  have hS : va_S A s.heap s.heap [] := va_S.rf
  have hl : lv_has ls 3 [(0, .ref a0), (1, .int x1), (2, .int x2)] := hl
  have in_X9 : ∀ w ∈ u_ws RX9 TX9 45, w ∈ wsX9_answerPermille := by decide +kernel
  have lk_1 := hts (.fieldLink RX9 1 "BalloonMailModel" "thrown" "I") (by decide +kernel)
  unfold f_X9_answerPermille at hf
  refine lv_aload_n hx hb dX9_answerPermille_0 rfl (lv_at hl 0 rfl) ?_
  refine lv_iconst (v := 0) hx hb dX9_answerPermille_1 (by decide) ?_
  refine va_put (D := D) (ci := 9) (v := .int 0) (ty := .int) (C := RX9) (T := TX9) (N := 45) hx hb hts in_X9 tyX9 tyX9_ok nmX9 hown hK hP hD hS 0 rfl rfl 0 (by decide) lk_1 (fun _ h9 => h9) rfl (by decide +kernel) rfl rfl (Nat.le_of_ble_eq_true rfl) dX9_answerPermille_2 (fun H locs hP hD hS => ?_)
  have hP : va_P D vwCl (w_X9_answerPermille kc a0 a1 a2 a3 a4 a5 a6 a7 a8 a9 a10 a11 a12 a13 a14 a15 a16 a17 a18 a19 a20 a21 a22 a23 a24 a25 a26 a27 a28 0 loftSize startWind seed draftLoft draftStart draftSeed length textSize start next_ token value error errorAt number undos winds now chance turns turnFrom turnWeight chanceNext turnTo regions named namedWeight namedRegion risk comesBack) H := hP
  have hD : va_D A (w_X9_answerPermille kc a0 a1 a2 a3 a4 a5 a6 a7 a8 a9 a10 a11 a12 a13 a14 a15 a16 a17 a18 a19 a20 a21 a22 a23 a24 a25 a26 a27 a28 0 loftSize startWind seed draftLoft draftStart draftSeed length textSize start next_ token value error errorAt number undos winds now chance turns turnFrom turnWeight chanceNext turnTo regions named namedWeight namedRegion risk comesBack) := hD
  refine lv_aload_n hx hb dX9_answerPermille_5 rfl (lv_at hl 0 rfl) ?_
  refine lv_iload_n hx hb dX9_answerPermille_6 rfl (lv_at hl 1 rfl) ?_
  refine lv_iload_n hx hb dX9_answerPermille_7 rfl (lv_at hl 2 rfl) ?_
  obtain ⟨r_1, hc, hf⟩ := ob1_some hf
  refine g_VZ (As := [.int x1, .int x2]) (rest := []) (ws' := (w_X9_answerPermille kc a0 a1 a2 a3 a4 a5 a6 a7 a8 a9 a10 a11 a12 a13 a14 a15 a16 a17 a18 a19 a20 a21 a22 a23 a24 a25 a26 a27 a28 0 loftSize startWind seed draftLoft draftStart draftSeed length textSize start next_ token value error errorAt number undos winds now chance turns turnFrom turnWeight chanceNext turnTo regions named namedWeight namedRegion risk comesBack)) ⟨hx, hb, hml, hown, hts⟩ hN hK hP hD hS hA (c_X9_mayAsk l D kc N a0 a1 a2 a3 a4 a5 a6 a7 a8 a9 a10 a11 a12 a13 a14 a15 a16 a17 a18 a19 a20 a21 a22 a23 a24 a25 a26 a27 a28 0 loftSize startWind seed draftLoft draftStart draftSeed length textSize start next_ token value error errorAt number undos winds x1 x2 r_1 hc) (cwV 2 hts gX9_answerPermille_X9_mayAsk rfl rfl rfl (by decide +kernel) ⟨Nat.le_of_ble_eq_true rfl, Nat.le_of_ble_eq_true rfl⟩) [0, 1] [2, 3, 4, 5, 6, 7, 8, 9, 10, 11, 12, 13, 14] [13, 14, 0, 1, 2, 3, 4, 5, 6, 7, 8, 9, 10, 11, 12] (by exact ⟨rfl, rfl, by decide, rfl⟩) 0 9 rfl rfl rfl rfl hl.1 rfl (Nat.le_of_ble_eq_true rfl) dX9_answerPermille_8 ⟨Nat.le_refl _, Nat.le_refl _⟩ (fun H locs hz hP hD hS => ?_)
  have hz_2 := hz
  refine lv_if_eq (tgt := 39) hx hb dX9_answerPermille_11 (by decide) (fun hc => ?_) (fun hc => ?_)
  · have hf := o_t hc hf
    refine lv_iconst (v := (-1)) hx hb dX9_answerPermille_39 (by decide) ?_
    cases hf
    exact kR _ _ _ _ hP hD hS dX9_answerPermille_40
  · have hf := o_f hc hf
    refine lv_aload_n hx hb dX9_answerPermille_14 rfl (lv_at hl 0 rfl) ?_
    refine lv_iload_n hx hb dX9_answerPermille_15 rfl (lv_at hl 1 rfl) ?_
    refine lv_iload_n hx hb dX9_answerPermille_16 rfl (lv_at hl 2 rfl) ?_
    obtain ⟨r_3, chance_4, chanceNext_5, hc, hf⟩ := ob3_some hf
    refine g_VL (As := [.int x1, .int x2]) (rest := []) (ws' := (w_X9_answerPermille kc a0 a1 a2 a3 a4 a5 a6 a7 a8 a9 a10 a11 a12 a13 a14 a15 a16 a17 a18 a19 a20 a21 a22 a23 a24 a25 a26 a27 a28 0 loftSize startWind seed draftLoft draftStart draftSeed length textSize start next_ token value error errorAt number undos winds now chance_4 turns turnFrom turnWeight chanceNext_5 turnTo regions named namedWeight namedRegion risk comesBack)) ⟨hx, hb, hml, hown, hts⟩ hN hK hP hD hS hA (c_X9_chanceOf l D kc N a0 a1 a2 a3 a4 a5 a6 a7 a8 a9 a10 a11 a12 a13 a14 a15 a16 a17 a18 a19 a20 a21 a22 a23 a24 a25 a26 a27 a28 0 loftSize startWind seed draftLoft draftStart draftSeed length textSize start next_ token value error errorAt number undos now chance turns turnFrom turnWeight chanceNext turnTo winds regions named namedWeight namedRegion risk comesBack x1 x2 r_3 chance_4 chanceNext_5 hc) (cwV 2 hts gX9_answerPermille_X9_chanceOf rfl rfl rfl (by decide +kernel) ⟨Nat.le_of_ble_eq_true rfl, Nat.le_of_ble_eq_true rfl⟩) [0, 2, 3, 4, 5, 6, 7, 8, 1, 9, 10, 11, 12, 13, 14] [] [0, 8, 1, 2, 3, 4, 5, 6, 7, 9, 10, 11, 12, 13, 14] (by exact ⟨rfl, rfl, by decide, rfl⟩) 0 9 rfl rfl rfl rfl hl.1 rfl (Nat.le_of_ble_eq_true rfl) dX9_answerPermille_17 ⟨Nat.le_refl _, Nat.le_refl _⟩ (fun H locs hP hD hS => ?_)
    refine lv_ldc2 (v := 1000) hx hb hown (hts (.constantLong RX9 280 (1000)) (by decide +kernel)) dX9_answerPermille_20 ?_
    refine lv_lmul hx hb dX9_answerPermille_23 ?_
    refine lv_bipush (v := 10) hx hb dX9_answerPermille_24 (by decide) ?_
    refine lv_iload_n hx hb dX9_answerPermille_26 rfl (lv_at hl 2 rfl) ?_
    refine lv_iconst (v := 2) hx hb dX9_answerPermille_27 (by decide) ?_
    refine lv_iadd hx hb dX9_answerPermille_28 ?_
    refine lv_iload_n hx hb dX9_answerPermille_29 rfl (lv_at hl 1 rfl) ?_
    refine lv_iadd hx hb dX9_answerPermille_30 ?_
    obtain ⟨r_6, hc, hf⟩ := ob1_some hf
    refine g_SL (As := [.int 10, .int ((x2 + 2) + x1)]) (rest := [.long (r_3 * 1000)]) (ws' := (w_X9_answerPermille kc a0 a1 a2 a3 a4 a5 a6 a7 a8 a9 a10 a11 a12 a13 a14 a15 a16 a17 a18 a19 a20 a21 a22 a23 a24 a25 a26 a27 a28 0 loftSize startWind seed draftLoft draftStart draftSeed length textSize start next_ token value error errorAt number undos winds now chance_4 turns turnFrom turnWeight chanceNext_5 turnTo regions named namedWeight namedRegion risk comesBack)) ⟨hx, hb, hml, hown, hts⟩ hN hK hP hD hS hA (c_X9_power l D kc N 10 ((x2 + 2) + x1) r_6 hc) (va_cwS 2 hts gX9_answerPermille_X9_power rfl rfl rfl (by decide +kernel) ⟨Nat.le_of_ble_eq_true rfl, Nat.le_of_ble_eq_true rfl⟩) [] [0, 1, 2, 3, 4, 5, 6, 7, 8, 9, 10, 11, 12, 13, 14] [0, 1, 2, 3, 4, 5, 6, 7, 8, 9, 10, 11, 12, 13, 14] (by exact ⟨rfl, rfl, by decide, rfl⟩) rfl hl.1 rfl (Nat.le_of_ble_eq_true rfl) dX9_answerPermille_31 ⟨Nat.le_refl _, Nat.le_refl _⟩ (fun H locs hP hD hS => ?_)
    obtain ⟨hnz, hf⟩ := gNz_some hf
    refine lv_ldiv hx hb dX9_answerPermille_34 hnz ?_
    refine lv_l2i (v := (((r_3 * 1000) / r_6) : Int64).toInt32) hx hb dX9_answerPermille_35 rfl ?_
    refine lv_goto (tgt := 40) hx hb dX9_answerPermille_36 (by decide) ?_
    cases hf
    exact kR _ _ _ _ hP hD hS dX9_answerPermille_40
abbrev w_X9_evenChance (kc : Nat → ClassId) (a0 a1 a2 a3 a4 a5 a6 a7 a8 a9 a10 a11 a12 a13 a14 a15 a16 a17 a18 a19 a20 a21 a22 a23 a24 a25 a26 a27 a28 : Nat) (thrown : Int32) (loftSize : Int32) (startWind : Int32) (seed : Int32) (draftLoft : Int32) (draftStart : Int32) (draftSeed : Int32) (length : Int32) (textSize : Int32) (start : Int32) (next_ : Int32) (token : Int32) (value : Int32) (error : Int32) (errorAt : Int32) (number : Int32) (undos : Int32) (now : Nat → Int32) (chance : Nat → Int64) (turns : Nat → Int32) (turnFrom : Nat → Int32) (turnWeight : Nat → Int32) (chanceNext : Nat → Int64) (turnTo : Nat → Int32) (winds : Nat → Int32) (regions : Nat → Int32) (named : Nat → Int32) (namedWeight : Nat → Int32) (namedRegion : Nat → Int32) (risk : Nat → Int32) (comesBack : Nat → Int32) : va_W := [(a0, .inr (9, [.int thrown, .ref a1, .ref a2, .ref a3, .ref a4, .ref a5, .ref a6, .ref a7, .ref a8, .ref a9, .ref a10, .ref a11, .ref a12, .ref a13, .ref a14, .ref a15, .ref a16, .ref a17, .ref a18, .ref a19, .int loftSize, .int startWind, .int seed, .int draftLoft, .int draftStart, .int draftSeed, .ref a20, .int length, .int textSize, .int start, .int next_, .int token, .int value, .int error, .int errorAt, .int number, .ref a21, .ref a22, .ref a23, .ref a24, .ref a25, .int undos, .ref a26, .ref a27, .ref a28])), (a1, .inl (kc 1, 213, .inl now)), (a21, .inl (kc 2, 6, .inr (.inl chance))), (a10, .inl (kc 1, 2, .inl turns)), (a11, .inl (kc 1, 60, .inl turnFrom)), (a13, .inl (kc 1, 60, .inl turnWeight)), (a22, .inl (kc 2, 6, .inr (.inl chanceNext))), (a12, .inl (kc 1, 60, .inl turnTo)), (a6, .inl (kc 1, 2, .inl winds)), (a2, .inl (kc 1, 2, .inl regions)), (a7, .inl (kc 1, 12, .inl named)), (a9, .inl (kc 1, 96, .inl namedWeight)), (a8, .inl (kc 1, 96, .inl namedRegion)), (a3, .inl (kc 1, 16, .inl risk)), (a5, .inl (kc 1, 16, .inl comesBack))]
set_option maxHeartbeats 4000000 in
set_option maxRecDepth 100000 in
theorem c_X9_evenChance (l : Launch) (D : va_G) (kc : Nat → ClassId) (N : Nat) (a0 a1 a2 a3 a4 a5 a6 a7 a8 a9 a10 a11 a12 a13 a14 a15 a16 a17 a18 a19 a20 a21 a22 a23 a24 a25 a26 a27 a28 : Nat) (thrown : Int32) (loftSize : Int32) (startWind : Int32) (seed : Int32) (draftLoft : Int32) (draftStart : Int32) (draftSeed : Int32) (length : Int32) (textSize : Int32) (start : Int32) (next_ : Int32) (token : Int32) (value : Int32) (error : Int32) (errorAt : Int32) (number : Int32) (undos : Int32) (now : Nat → Int32) (chance : Nat → Int64) (turns : Nat → Int32) (turnFrom : Nat → Int32) (turnWeight : Nat → Int32) (chanceNext : Nat → Int64) (turnTo : Nat → Int32) (winds : Nat → Int32) (regions : Nat → Int32) (named : Nat → Int32) (namedWeight : Nat → Int32) (namedRegion : Nat → Int32) (risk : Nat → Int32) (comesBack : Nat → Int32) (x1 : Int32) (x2 : Int32) (r_ : Int64) (chance' : Nat → Int64) (chanceNext' : Nat → Int64) (hf : f_X9_evenChance N now chance turns turnFrom turnWeight chanceNext turnTo winds regions named namedWeight namedRegion risk comesBack x1 x2 = some (r_, chance', chanceNext')) : ML l yX9_evenChance wsX9_evenChance ({ frames := 3, cells := 0, slots := 0, locals := 75 }) D kc [.ref a0, .int x1, .int x2] (w_X9_evenChance kc a0 a1 a2 a3 a4 a5 a6 a7 a8 a9 a10 a11 a12 a13 a14 a15 a16 a17 a18 a19 a20 a21 a22 a23 a24 a25 a26 a27 a28 thrown loftSize startWind seed draftLoft draftStart draftSeed length textSize start next_ token value error errorAt number undos now chance turns turnFrom turnWeight chanceNext turnTo winds regions named namedWeight namedRegion risk comesBack) (w_X9_evenChance kc a0 a1 a2 a3 a4 a5 a6 a7 a8 a9 a10 a11 a12 a13 a14 a15 a16 a17 a18 a19 a20 a21 a22 a23 a24 a25 a26 a27 a28 thrown loftSize startWind seed draftLoft draftStart draftSeed length textSize start next_ token value error errorAt number undos now chance' turns turnFrom turnWeight chanceNext' turnTo winds regions named namedWeight namedRegion risk comesBack) r_ := by
  refine gM_L (cc := cX9_evenChance) (maxL := 3) (by decide) rfl (Nat.le_of_ble_eq_true rfl) ?_
  intro p e s m below meth c A ls Q hx hb hml hown hts hN hK hP hD hA hl kR
  have hS : va_S A s.heap s.heap [] := va_S.rf
  have hl : lv_has ls 3 [(0, .ref a0), (1, .int x1), (2, .int x2)] := hl
  unfold f_X9_evenChance at hf
  refine lv_aload_n hx hb dX9_evenChance_0 rfl (lv_at hl 0 rfl) ?_
  refine lv_iload_n hx hb dX9_evenChance_1 rfl (lv_at hl 1 rfl) ?_
  refine lv_iload_n hx hb dX9_evenChance_2 rfl (lv_at hl 2 rfl) ?_
  obtain ⟨r_1, chance_2, chanceNext_3, hc, hf⟩ := ob3_some hf
  refine g_VL (As := [.int x1, .int x2]) (rest := []) (ws' := (w_X9_evenChance kc a0 a1 a2 a3 a4 a5 a6 a7 a8 a9 a10 a11 a12 a13 a14 a15 a16 a17 a18 a19 a20 a21 a22 a23 a24 a25 a26 a27 a28 thrown loftSize startWind seed draftLoft draftStart draftSeed length textSize start next_ token value error errorAt number undos now chance_2 turns turnFrom turnWeight chanceNext_3 turnTo winds regions named namedWeight namedRegion risk comesBack)) ⟨hx, hb, hml, hown, hts⟩ hN hK hP hD hS hA (c_X9_chanceOf l D kc N a0 a1 a2 a3 a4 a5 a6 a7 a8 a9 a10 a11 a12 a13 a14 a15 a16 a17 a18 a19 a20 a21 a22 a23 a24 a25 a26 a27 a28 thrown loftSize startWind seed draftLoft draftStart draftSeed length textSize start next_ token value error errorAt number undos now chance turns turnFrom turnWeight chanceNext turnTo winds regions named namedWeight namedRegion risk comesBack x1 x2 r_1 chance_2 chanceNext_3 hc) (cwV 2 hts gX9_evenChance_X9_chanceOf rfl rfl rfl (by decide +kernel) ⟨Nat.le_of_ble_eq_true rfl, Nat.le_of_ble_eq_true rfl⟩) [0, 1, 2, 3, 4, 5, 6, 7, 8, 9, 10, 11, 12, 13, 14] [] [0, 1, 2, 3, 4, 5, 6, 7, 8, 9, 10, 11, 12, 13, 14] (by exact ⟨rfl, rfl, by decide, rfl⟩) 0 9 rfl rfl rfl rfl hl.1 rfl (Nat.le_of_ble_eq_true rfl) dX9_evenChance_3 ⟨Nat.le_refl _, Nat.le_refl _⟩ (fun H locs hP hD hS => ?_)
  refine lv_bipush (v := 10) hx hb dX9_evenChance_6 (by decide) ?_
  refine lv_bipush (v := 12) hx hb dX9_evenChance_8 (by decide) ?_
  refine lv_iload_n hx hb dX9_evenChance_10 rfl (lv_at hl 2 rfl) ?_
  refine lv_isub hx hb dX9_evenChance_11 ?_
  refine lv_iload_n hx hb dX9_evenChance_12 rfl (lv_at hl 1 rfl) ?_
  refine lv_isub hx hb dX9_evenChance_13 ?_
  obtain ⟨r_4, hc, hf⟩ := ob1_some hf
  refine g_SL (As := [.int 10, .int ((12 - x2) - x1)]) (rest := [.long r_1]) (ws' := (w_X9_evenChance kc a0 a1 a2 a3 a4 a5 a6 a7 a8 a9 a10 a11 a12 a13 a14 a15 a16 a17 a18 a19 a20 a21 a22 a23 a24 a25 a26 a27 a28 thrown loftSize startWind seed draftLoft draftStart draftSeed length textSize start next_ token value error errorAt number undos now chance_2 turns turnFrom turnWeight chanceNext_3 turnTo winds regions named namedWeight namedRegion risk comesBack)) ⟨hx, hb, hml, hown, hts⟩ hN hK hP hD hS hA (c_X9_power l D kc N 10 ((12 - x2) - x1) r_4 hc) (va_cwS 2 hts gX9_evenChance_X9_power rfl rfl rfl (by decide +kernel) ⟨Nat.le_of_ble_eq_true rfl, Nat.le_of_ble_eq_true rfl⟩) [] [0, 1, 2, 3, 4, 5, 6, 7, 8, 9, 10, 11, 12, 13, 14] [0, 1, 2, 3, 4, 5, 6, 7, 8, 9, 10, 11, 12, 13, 14] (by exact ⟨rfl, rfl, by decide, rfl⟩) rfl hl.1 rfl (Nat.le_of_ble_eq_true rfl) dX9_evenChance_14 ⟨Nat.le_refl _, Nat.le_refl _⟩ (fun H locs hP hD hS => ?_)
  refine lv_lmul hx hb dX9_evenChance_17 ?_
  cases hf
  exact kR _ _ _ _ hP hD hS dX9_evenChance_18
abbrev w_X9_bestDay (kc : Nat → ClassId) (a0 a1 a2 a3 a4 a5 a6 a7 a8 a9 a10 a11 a12 a13 a14 a15 a16 a17 a18 a19 a20 a21 a22 a23 a24 a25 a26 a27 a28 : Nat) (thrown : Int32) (loftSize : Int32) (startWind : Int32) (seed : Int32) (draftLoft : Int32) (draftStart : Int32) (draftSeed : Int32) (length : Int32) (textSize : Int32) (start : Int32) (next_ : Int32) (token : Int32) (value : Int32) (error : Int32) (errorAt : Int32) (number : Int32) (undos : Int32) (winds : Nat → Int32) (now : Nat → Int32) (chance : Nat → Int64) (turns : Nat → Int32) (turnFrom : Nat → Int32) (turnWeight : Nat → Int32) (chanceNext : Nat → Int64) (turnTo : Nat → Int32) (regions : Nat → Int32) (named : Nat → Int32) (namedWeight : Nat → Int32) (namedRegion : Nat → Int32) (risk : Nat → Int32) (comesBack : Nat → Int32) : va_W := [(a0, .inr (9, [.int thrown, .ref a1, .ref a2, .ref a3, .ref a4, .ref a5, .ref a6, .ref a7, .ref a8, .ref a9, .ref a10, .ref a11, .ref a12, .ref a13, .ref a14, .ref a15, .ref a16, .ref a17, .ref a18, .ref a19, .int loftSize, .int startWind, .int seed, .int draftLoft, .int draftStart, .int draftSeed, .ref a20, .int length, .int textSize, .int start, .int next_, .int token, .int value, .int error, .int errorAt, .int number, .ref a21, .ref a22, .ref a23, .ref a24, .ref a25, .int undos, .ref a26, .ref a27, .ref a28])), (a6, .inl (kc 1, 2, .inl winds)), (a1, .inl (kc 1, 213, .inl now)), (a21, .inl (kc 2, 6, .inr (.inl chance))), (a10, .inl (kc 1, 2, .inl turns)), (a11, .inl (kc 1, 60, .inl turnFrom)), (a13, .inl (kc 1, 60, .inl turnWeight)), (a22, .inl (kc 2, 6, .inr (.inl chanceNext))), (a12, .inl (kc 1, 60, .inl turnTo)), (a2, .inl (kc 1, 2, .inl regions)), (a7, .inl (kc 1, 12, .inl named)), (a9, .inl (kc 1, 96, .inl namedWeight)), (a8, .inl (kc 1, 96, .inl namedRegion)), (a3, .inl (kc 1, 16, .inl risk)), (a5, .inl (kc 1, 16, .inl comesBack))]
set_option maxHeartbeats 4000000 in
set_option maxRecDepth 100000 in
theorem c_X9_bestDay (l : Launch) (D : va_G) (kc : Nat → ClassId) (N : Nat) (a0 a1 a2 a3 a4 a5 a6 a7 a8 a9 a10 a11 a12 a13 a14 a15 a16 a17 a18 a19 a20 a21 a22 a23 a24 a25 a26 a27 a28 : Nat) (thrown : Int32) (loftSize : Int32) (startWind : Int32) (seed : Int32) (draftLoft : Int32) (draftStart : Int32) (draftSeed : Int32) (length : Int32) (textSize : Int32) (start : Int32) (next_ : Int32) (token : Int32) (value : Int32) (error : Int32) (errorAt : Int32) (number : Int32) (undos : Int32) (winds : Nat → Int32) (now : Nat → Int32) (chance : Nat → Int64) (turns : Nat → Int32) (turnFrom : Nat → Int32) (turnWeight : Nat → Int32) (chanceNext : Nat → Int64) (turnTo : Nat → Int32) (regions : Nat → Int32) (named : Nat → Int32) (namedWeight : Nat → Int32) (namedRegion : Nat → Int32) (risk : Nat → Int32) (comesBack : Nat → Int32) (x1 : Int32) (r_ : Int32) (thrown' : Int32) (chance' : Nat → Int64) (chanceNext' : Nat → Int64) (hf : f_X9_bestDay N winds now chance turns turnFrom turnWeight chanceNext turnTo regions named namedWeight namedRegion risk comesBack x1 = some (r_, thrown', chance', chanceNext')) : MI l yX9_bestDay wsX9_bestDay ({ frames := 4, cells := 0, slots := 0, locals := 97 }) D kc [.ref a0, .int x1] (w_X9_bestDay kc a0 a1 a2 a3 a4 a5 a6 a7 a8 a9 a10 a11 a12 a13 a14 a15 a16 a17 a18 a19 a20 a21 a22 a23 a24 a25 a26 a27 a28 thrown loftSize startWind seed draftLoft draftStart draftSeed length textSize start next_ token value error errorAt number undos winds now chance turns turnFrom turnWeight chanceNext turnTo regions named namedWeight namedRegion risk comesBack) (w_X9_bestDay kc a0 a1 a2 a3 a4 a5 a6 a7 a8 a9 a10 a11 a12 a13 a14 a15 a16 a17 a18 a19 a20 a21 a22 a23 a24 a25 a26 a27 a28 thrown' loftSize startWind seed draftLoft draftStart draftSeed length textSize start next_ token value error errorAt number undos winds now chance' turns turnFrom turnWeight chanceNext' turnTo regions named namedWeight namedRegion risk comesBack) r_ := by
  refine gM_I (cc := cX9_bestDay) (maxL := 8) (by decide) rfl (Nat.le_of_ble_eq_true rfl) ?_
  intro p e s m below meth c A ls Q hx hb hml hown hts hN hK hP hD hA hl kR
  have hS : va_S A s.heap s.heap [] := va_S.rf
  have hl : lv_has ls 8 [(0, .ref a0), (1, .int x1)] := hl
  have in_X9 : ∀ w ∈ u_ws RX9 TX9 45, w ∈ wsX9_bestDay := by decide +kernel
  have lk_1 := hts (.fieldLink RX9 1 "BalloonMailModel" "thrown" "I") (by decide +kernel)
  unfold f_X9_bestDay at hf
  refine lv_aload_n hx hb dX9_bestDay_0 rfl (lv_at hl 0 rfl) ?_
  refine lv_iconst (v := 0) hx hb dX9_bestDay_1 (by decide) ?_
  refine va_put (D := D) (ci := 9) (v := .int 0) (ty := .int) (C := RX9) (T := TX9) (N := 45) hx hb hts in_X9 tyX9 tyX9_ok nmX9 hown hK hP hD hS 0 rfl rfl 0 (by decide) lk_1 (fun _ h9 => h9) rfl (by decide +kernel) rfl rfl (Nat.le_of_ble_eq_true rfl) dX9_bestDay_2 (fun H locs hP hD hS => ?_)
  have hP : va_P D vwCl (w_X9_bestDay kc a0 a1 a2 a3 a4 a5 a6 a7 a8 a9 a10 a11 a12 a13 a14 a15 a16 a17 a18 a19 a20 a21 a22 a23 a24 a25 a26 a27 a28 0 loftSize startWind seed draftLoft draftStart draftSeed length textSize start next_ token value error errorAt number undos winds now chance turns turnFrom turnWeight chanceNext turnTo regions named namedWeight namedRegion risk comesBack) H := hP
  have hD : va_D A (w_X9_bestDay kc a0 a1 a2 a3 a4 a5 a6 a7 a8 a9 a10 a11 a12 a13 a14 a15 a16 a17 a18 a19 a20 a21 a22 a23 a24 a25 a26 a27 a28 0 loftSize startWind seed draftLoft draftStart draftSeed length textSize start next_ token value error errorAt number undos winds now chance turns turnFrom turnWeight chanceNext turnTo regions named namedWeight namedRegion risk comesBack) := hD
  refine lv_aload_n hx hb dX9_bestDay_5 rfl (lv_at hl 0 rfl) ?_
  refine lv_iload_n hx hb dX9_bestDay_6 rfl (lv_at hl 1 rfl) ?_
  refine lv_iconst (v := 0) hx hb dX9_bestDay_7 (by decide) ?_
  obtain ⟨r_1, hc, hf⟩ := ob1_some hf
  refine g_VZ (As := [.int x1, .int 0]) (rest := []) (ws' := (w_X9_bestDay kc a0 a1 a2 a3 a4 a5 a6 a7 a8 a9 a10 a11 a12 a13 a14 a15 a16 a17 a18 a19 a20 a21 a22 a23 a24 a25 a26 a27 a28 0 loftSize startWind seed draftLoft draftStart draftSeed length textSize start next_ token value error errorAt number undos winds now chance turns turnFrom turnWeight chanceNext turnTo regions named namedWeight namedRegion risk comesBack)) ⟨hx, hb, hml, hown, hts⟩ hN hK hP hD hS hA (c_X9_mayAsk l D kc N a0 a1 a2 a3 a4 a5 a6 a7 a8 a9 a10 a11 a12 a13 a14 a15 a16 a17 a18 a19 a20 a21 a22 a23 a24 a25 a26 a27 a28 0 loftSize startWind seed draftLoft draftStart draftSeed length textSize start next_ token value error errorAt number undos winds x1 0 r_1 hc) (cwV 2 hts gX9_bestDay_X9_mayAsk rfl rfl rfl (by decide +kernel) ⟨Nat.le_of_ble_eq_true rfl, Nat.le_of_ble_eq_true rfl⟩) [0, 1] [2, 3, 4, 5, 6, 7, 8, 9, 10, 11, 12, 13, 14] [13, 14, 0, 1, 2, 3, 4, 5, 6, 7, 8, 9, 10, 11, 12] (by exact ⟨rfl, rfl, by decide, rfl⟩) 0 9 rfl rfl rfl rfl hl.1 rfl (Nat.le_of_ble_eq_true rfl) dX9_bestDay_8 ⟨Nat.le_refl _, Nat.le_refl _⟩ (fun H locs hz hP hD hS => ?_)
  have hz_2 := hz
  refine lv_if_ne (tgt := 16) hx hb dX9_bestDay_11 (by decide) (fun hc => ?_) (fun hc => ?_)
  · have hf := o_f hc hf
    refine lv_iconst (v := 0) hx hb dX9_bestDay_16 (by decide) ?_
    refine lv_istore_n (lv' := [(2, .int 0), (0, .ref a0), (1, .int x1)]) hx hb dX9_bestDay_17 rfl hl (by decide) rfl (fun ls hl => ?_)
    refine lv_ldc2 (v := (-1)) hx hb hown (hts (.constantLong RX9 261 (-1)) (by decide +kernel)) dX9_bestDay_18 ?_
    refine lv_lstore_n (lv' := [(3, .long (-1)), (2, .int 0), (0, .ref a0), (1, .int x1)]) hx hb dX9_bestDay_21 rfl hl (by decide) rfl (fun ls hl => ?_)
    refine lv_iconst (v := 0) hx hb dX9_bestDay_22 (by decide) ?_
    refine lv_istore (lv' := [(5, .int 0), (3, .long (-1)), (2, .int 0), (0, .ref a0), (1, .int x1)]) hx hb dX9_bestDay_23 hl (by decide) rfl (fun ls hl => ?_)
    have L25 : ∀ (thrown_f25 : Int32) (n : Nat) (y5_25 : Int32) (y3_25 : Int64) (y2_25 : Int32) (chance_25 : Nat → Int64) (chanceNext_25 : Nat → Int64) (y5_25o : Int32) (y3_25o : Int64) (y2_25o : Int32) (chance_25o : Nat → Int64) (chanceNext_25o : Nat → Int64), f_X9_bestDay_25 N winds now turns turnFrom turnWeight turnTo regions named namedWeight namedRegion risk comesBack x1 n y5_25 y3_25 y2_25 chance_25 chanceNext_25 = some (y5_25o, y3_25o, y2_25o, chance_25o, chanceNext_25o) → (∀ (H : Heap) (locs : List Loc) (ls : Array Slot), va_P D vwCl (w_X9_bestDay kc a0 a1 a2 a3 a4 a5 a6 a7 a8 a9 a10 a11 a12 a13 a14 a15 a16 a17 a18 a19 a20 a21 a22 a23 a24 a25 a26 a27 a28 thrown_f25 loftSize startWind seed draftLoft draftStart draftSeed length textSize start next_ token value error errorAt number undos winds now chance_25o turns turnFrom turnWeight chanceNext_25o turnTo regions named namedWeight namedRegion risk comesBack) H → va_D A (w_X9_bestDay kc a0 a1 a2 a3 a4 a5 a6 a7 a8 a9 a10 a11 a12 a13 a14 a15 a16 a17 a18 a19 a20 a21 a22 a23 a24 a25 a26 a27 a28 thrown_f25 loftSize startWind seed draftLoft draftStart draftSeed length textSize start next_ token value error errorAt number undos winds now chance_25o turns turnFrom turnWeight chanceNext_25o turnTo regions named namedWeight namedRegion risk comesBack) → va_S A s.heap H locs → lv_has ls 8 [(0, .ref a0), (1, .int x1), (2, .int y2_25o), (3, .long y3_25o), (5, .int y5_25o)] → W p l e ({ frames := 4, cells := 0, slots := 0, locals := 97 }) s m (([.ref a0, .int x1] : List Value).toArray) below meth c H locs 0 0 Q (F0 m 60 ls [])) → ∀ (H : Heap) (locs : List Loc) (ls : Array Slot), va_P D vwCl (w_X9_bestDay kc a0 a1 a2 a3 a4 a5 a6 a7 a8 a9 a10 a11 a12 a13 a14 a15 a16 a17 a18 a19 a20 a21 a22 a23 a24 a25 a26 a27 a28 thrown_f25 loftSize startWind seed draftLoft draftStart draftSeed length textSize start next_ token value error errorAt number undos winds now chance_25 turns turnFrom turnWeight chanceNext_25 turnTo regions named namedWeight namedRegion risk comesBack) H → va_D A (w_X9_bestDay kc a0 a1 a2 a3 a4 a5 a6 a7 a8 a9 a10 a11 a12 a13 a14 a15 a16 a17 a18 a19 a20 a21 a22 a23 a24 a25 a26 a27 a28 thrown_f25 loftSize startWind seed draftLoft draftStart draftSeed length textSize start next_ token value error errorAt number undos winds now chance_25 turns turnFrom turnWeight chanceNext_25 turnTo regions named namedWeight namedRegion risk comesBack) → va_S A s.heap H locs → lv_has ls 8 [(0, .ref a0), (1, .int x1), (2, .int y2_25), (3, .long y3_25), (5, .int y5_25)] → W p l e ({ frames := 4, cells := 0, slots := 0, locals := 97 }) s m (([.ref a0, .int x1] : List Value).toArray) below meth c H locs 0 0 Q (F0 m 25 ls []) := by
      intro thrown_f25 n
      induction n with
      | zero => intro _ _ _ _ _ _ _ _ _ _ hf; rw [f_X9_bestDay_25.eq_1] at hf; cases hf
      | succ n ih =>
        intro y5_25 y3_25 y2_25 chance_25 chanceNext_25 y5_25o y3_25o y2_25o chance_25o chanceNext_25o hf hk H locs ls hP hD hS hl
        rw [f_X9_bestDay_25.eq_2] at hf
        refine lv_iload hx hb dX9_bestDay_25 (lv_at hl 4 rfl) ?_
        refine lv_bipush (v := 8) hx hb dX9_bestDay_27 (by decide) ?_
        refine lv_icmp_gt (tgt := 60) hx hb dX9_bestDay_29 (by decide) (fun hc => ?_) (fun hc => ?_)
        · have hf := o_t hc hf
          cases hf
          exact hk _ _ _ hP hD hS (lv_sub hl [0, 1, 2, 3, 4] rfl)
        · have hf := o_f hc hf
          refine lv_aload_n hx hb dX9_bestDay_32 rfl (lv_at hl 0 rfl) ?_
          refine lv_iload_n hx hb dX9_bestDay_33 rfl (lv_at hl 1 rfl) ?_
          refine lv_iload hx hb dX9_bestDay_34 (lv_at hl 4 rfl) ?_
          obtain ⟨r_3, chance_4, chanceNext_5, hc, hf⟩ := ob3_some hf
          refine g_VL (As := [.int x1, .int y5_25]) (rest := []) (ws' := (w_X9_bestDay kc a0 a1 a2 a3 a4 a5 a6 a7 a8 a9 a10 a11 a12 a13 a14 a15 a16 a17 a18 a19 a20 a21 a22 a23 a24 a25 a26 a27 a28 thrown_f25 loftSize startWind seed draftLoft draftStart draftSeed length textSize start next_ token value error errorAt number undos winds now chance_4 turns turnFrom turnWeight chanceNext_5 turnTo regions named namedWeight namedRegion risk comesBack)) ⟨hx, hb, hml, hown, hts⟩ hN hK hP hD hS hA (c_X9_evenChance l D kc N a0 a1 a2 a3 a4 a5 a6 a7 a8 a9 a10 a11 a12 a13 a14 a15 a16 a17 a18 a19 a20 a21 a22 a23 a24 a25 a26 a27 a28 thrown_f25 loftSize startWind seed draftLoft draftStart draftSeed length textSize start next_ token value error errorAt number undos now chance_25 turns turnFrom turnWeight chanceNext_25 turnTo winds regions named namedWeight namedRegion risk comesBack x1 y5_25 r_3 chance_4 chanceNext_5 hc) (cwV 2 hts gX9_bestDay_X9_evenChance rfl rfl rfl (by decide +kernel) ⟨Nat.le_of_ble_eq_true rfl, Nat.le_of_ble_eq_true rfl⟩) [0, 2, 3, 4, 5, 6, 7, 8, 1, 9, 10, 11, 12, 13, 14] [] [0, 8, 1, 2, 3, 4, 5, 6, 7, 9, 10, 11, 12, 13, 14] (by exact ⟨rfl, rfl, by decide, rfl⟩) 0 9 rfl rfl rfl rfl hl.1 rfl (Nat.le_of_ble_eq_true rfl) dX9_bestDay_36 ⟨Nat.le_refl _, Nat.le_refl _⟩ (fun H locs hP hD hS => ?_)
          refine lv_lstore (lv' := [(6, .long r_3), (0, .ref a0), (1, .int x1), (2, .int y2_25), (3, .long y3_25), (5, .int y5_25)]) hx hb dX9_bestDay_39 hl (by decide) rfl (fun ls hl => ?_)
          refine lv_lload hx hb dX9_bestDay_41 (lv_at hl 0 rfl) ?_
          refine lv_lload_n hx hb dX9_bestDay_43 rfl (lv_at hl 4 rfl) ?_
          refine W.lcmp hx hb dX9_bestDay_44 ?_
          refine lv_if_le (tgt := 54) hx hb dX9_bestDay_45 (by decide) (fun hc => ?_) (fun hc => ?_)
          · have hf := o_t hc hf
            refine lv_iinc (v := (y5_25 + 1)) (lv' := [(5, .int (y5_25 + 1)), (6, .long r_3), (0, .ref a0), (1, .int x1), (2, .int y2_25), (3, .long y3_25)]) hx hb dX9_bestDay_54 hl (k := 5) rfl (by rfl) (by decide) rfl (fun ls hl => ?_)
            refine lv_goto (tgt := 25) hx hb dX9_bestDay_57 (by decide) ?_
            exact ih _ _ _ _ _ _ _ _ _ _ hf hk _ _ _ hP hD hS (lv_sub hl [2, 3, 4, 5, 0] rfl)
          · have hf := o_f hc hf
            refine lv_iload hx hb dX9_bestDay_48 (lv_at hl 5 rfl) ?_
            refine lv_istore_n (lv' := [(2, .int y5_25), (6, .long r_3), (0, .ref a0), (1, .int x1), (3, .long y3_25), (5, .int y5_25)]) hx hb dX9_bestDay_50 rfl hl (by decide) rfl (fun ls hl => ?_)
            refine lv_lload hx hb dX9_bestDay_51 (lv_at hl 1 rfl) ?_
            refine lv_lstore_n (lv' := [(3, .long r_3), (2, .int y5_25), (6, .long r_3), (0, .ref a0), (1, .int x1), (5, .int y5_25)]) hx hb dX9_bestDay_53 rfl hl (by decide) rfl (fun ls hl => ?_)
            refine lv_iinc (v := (y5_25 + 1)) (lv' := [(5, .int (y5_25 + 1)), (3, .long r_3), (2, .int y5_25), (6, .long r_3), (0, .ref a0), (1, .int x1)]) hx hb dX9_bestDay_54 hl (k := 5) rfl (by rfl) (by decide) rfl (fun ls hl => ?_)
            refine lv_goto (tgt := 25) hx hb dX9_bestDay_57 (by decide) ?_
            exact ih _ _ _ _ _ _ _ _ _ _ hf hk _ _ _ hP hD hS (lv_sub hl [4, 5, 2, 1, 0] rfl)
    obtain ⟨y5_25o, y3_25o, y2_25o, chance_25o, chanceNext_25o, hc, hf⟩ := ob5_some hf
    refine L25 0 N _ _ _ _ _ _ _ _ _ _ hc (fun H locs ls hP hD hS hl => ?_) _ _ _ hP hD hS (lv_sub hl [3, 4, 2, 1, 0] rfl)
    refine lv_iload_n hx hb dX9_bestDay_60 rfl (lv_at hl 2 rfl) ?_
    cases hf
    exact kR _ _ _ _ hP hD hS dX9_bestDay_61
  · have hf := o_t hc hf
    refine lv_iconst (v := (-1)) hx hb dX9_bestDay_14 (by decide) ?_
    cases hf
    exact kR _ _ _ _ hP hD hS dX9_bestDay_15
