abbrev w_X9_regionLine (kc : Nat → ClassId) (a0 a1 a2 a3 a4 a5 a6 a7 a8 a9 a10 a11 a12 a13 a14 a15 a16 a17 a18 a19 a20 a21 a22 a23 a24 a25 a26 a27 a28 : Nat) (thrown : Int32) (loftSize : Int32) (startWind : Int32) (seed : Int32) (draftLoft : Int32) (draftStart : Int32) (draftSeed : Int32) (length : Int32) (textSize : Int32) (start : Int32) (next_ : Int32) (token : Int32) (value : Int32) (error : Int32) (errorAt : Int32) (number : Int32) (undos : Int32) (regions : Nat → Int32) (text : Nat → Int32) (risk : Nat → Int32) (distance : Nat → Int32) (comesBack : Nat → Int32) : va_W := [(a0, .inr (9, [.int thrown, .ref a1, .ref a2, .ref a3, .ref a4, .ref a5, .ref a6, .ref a7, .ref a8, .ref a9, .ref a10, .ref a11, .ref a12, .ref a13, .ref a14, .ref a15, .ref a16, .ref a17, .ref a18, .ref a19, .int loftSize, .int startWind, .int seed, .int draftLoft, .int draftStart, .int draftSeed, .ref a20, .int length, .int textSize, .int start, .int next_, .int token, .int value, .int error, .int errorAt, .int number, .ref a21, .ref a22, .ref a23, .ref a24, .ref a25, .int undos, .ref a26, .ref a27, .ref a28])), (a2, .inl (kc 1, 2, .inl regions)), (a20, .inl (kc 0, 900, .inl text)), (a3, .inl (kc 1, 16, .inl risk)), (a4, .inl (kc 1, 16, .inl distance)), (a5, .inl (kc 1, 16, .inl comesBack))]
set_option maxHeartbeats 4000000 in
set_option maxRecDepth 100000 in
theorem c_X9_regionLine (l : Launch) (D : va_G) (kc : Nat → ClassId) (N : Nat) (a0 a1 a2 a3 a4 a5 a6 a7 a8 a9 a10 a11 a12 a13 a14 a15 a16 a17 a18 a19 a20 a21 a22 a23 a24 a25 a26 a27 a28 : Nat) (thrown : Int32) (loftSize : Int32) (startWind : Int32) (seed : Int32) (draftLoft : Int32) (draftStart : Int32) (draftSeed : Int32) (length : Int32) (textSize : Int32) (start : Int32) (next_ : Int32) (token : Int32) (value : Int32) (error : Int32) (errorAt : Int32) (number : Int32) (undos : Int32) (regions : Nat → Int32) (text : Nat → Int32) (risk : Nat → Int32) (distance : Nat → Int32) (comesBack : Nat → Int32) (r_ : Int32) (start' : Int32) (next_' : Int32) (token' : Int32) (value' : Int32) (error' : Int32) (errorAt' : Int32) (number' : Int32) (regions' : Nat → Int32) (risk' : Nat → Int32) (distance' : Nat → Int32) (comesBack' : Nat → Int32) (hf : f_X9_regionLine N textSize start next_ token value error errorAt number regions text risk distance comesBack = some (r_, start', next_', token', value', error', errorAt', number', regions', risk', distance', comesBack')) : MZ l yX9_regionLine wsX9_regionLine ({ frames := 3, cells := 0, slots := 0, locals := 65 }) D kc [.ref a0] (w_X9_regionLine kc a0 a1 a2 a3 a4 a5 a6 a7 a8 a9 a10 a11 a12 a13 a14 a15 a16 a17 a18 a19 a20 a21 a22 a23 a24 a25 a26 a27 a28 thrown loftSize startWind seed draftLoft draftStart draftSeed length textSize start next_ token value error errorAt number undos regions text risk distance comesBack) (w_X9_regionLine kc a0 a1 a2 a3 a4 a5 a6 a7 a8 a9 a10 a11 a12 a13 a14 a15 a16 a17 a18 a19 a20 a21 a22 a23 a24 a25 a26 a27 a28 thrown loftSize startWind seed draftLoft draftStart draftSeed length textSize start' next_' token' value' error' errorAt' number' undos regions' text risk' distance' comesBack') r_ := by
  refine gM_Z (cc := cX9_regionLine) (maxL := 2) (by decide) rfl (Nat.le_of_ble_eq_true rfl) ?_
  intro p e s m below meth c A ls Q hx hb hml hown hts hN hK hP hD hA hl kR
  have hS : va_S A s.heap s.heap [] := va_S.rf
  have hl : lv_has ls 2 [(0, .ref a0)] := hl
  have in_X9 : ∀ w ∈ u_ws RX9 TX9 45, w ∈ wsX9_regionLine := by decide +kernel
  have lk_17 := hts (.fieldLink RX9 17 "BalloonMailModel" "regions" "[I") (by decide +kernel)
  have lk_20 := hts (.fieldLink RX9 20 "BalloonMailModel" "risk" "[I") (by decide +kernel)
  have lk_159 := hts (.fieldLink RX9 159 "BalloonMailModel" "number" "I") (by decide +kernel)
  have lk_23 := hts (.fieldLink RX9 23 "BalloonMailModel" "distance" "[I") (by decide +kernel)
  have lk_26 := hts (.fieldLink RX9 26 "BalloonMailModel" "comesBack" "[I") (by decide +kernel)
  have J27 : ∀ (y1_27 : Int32) (k1_27 : Int32), f_X9_regionLine_j27 N textSize start next_ token value error errorAt number regions text risk distance comesBack y1_27 k1_27 = some (r_, start', next_', token', value', error', errorAt', number', regions', risk', distance', comesBack') → ∀ (H : Heap) (locs : List Loc) (ls : Array Slot), va_P D vwCl (w_X9_regionLine kc a0 a1 a2 a3 a4 a5 a6 a7 a8 a9 a10 a11 a12 a13 a14 a15 a16 a17 a18 a19 a20 a21 a22 a23 a24 a25 a26 a27 a28 thrown loftSize startWind seed draftLoft draftStart draftSeed length textSize start next_ token value error errorAt number undos regions text risk distance comesBack) H → va_D A (w_X9_regionLine kc a0 a1 a2 a3 a4 a5 a6 a7 a8 a9 a10 a11 a12 a13 a14 a15 a16 a17 a18 a19 a20 a21 a22 a23 a24 a25 a26 a27 a28 thrown loftSize startWind seed draftLoft draftStart draftSeed length textSize start next_ token value error errorAt number undos regions text risk distance comesBack) → va_S A s.heap H locs → lv_has ls 2 [(0, .ref a0), (1, .int y1_27)] → W p l e ({ frames := 3, cells := 0, slots := 0, locals := 65 }) s m (([.ref a0] : List Value).toArray) below meth c H locs 0 0 Q (F0 m 27 ls [.int k1_27, .ref a0]) := by
    clear hf
    intro y1_27 k1_27 hf H locs ls hP hD hS hl
    unfold f_X9_regionLine_j27 at hf
    obtain ⟨r_1, start_2, next__3, token_4, value_5, error_6, errorAt_7, hc, hf⟩ := ob7_some hf
    refine g_VZ (As := [.int k1_27]) (rest := []) (ws' := (w_X9_regionLine kc a0 a1 a2 a3 a4 a5 a6 a7 a8 a9 a10 a11 a12 a13 a14 a15 a16 a17 a18 a19 a20 a21 a22 a23 a24 a25 a26 a27 a28 thrown loftSize startWind seed draftLoft draftStart draftSeed length textSize start_2 next__3 token_4 value_5 error_6 errorAt_7 number undos regions text risk distance comesBack)) ⟨hx, hb, hml, hown, hts⟩ hN hK hP hD hS hA (c_X9_opens l D kc N a0 a1 a2 a3 a4 a5 a6 a7 a8 a9 a10 a11 a12 a13 a14 a15 a16 a17 a18 a19 a20 a21 a22 a23 a24 a25 a26 a27 a28 thrown loftSize startWind seed draftLoft draftStart draftSeed length textSize start next_ token value error errorAt number undos text k1_27 r_1 start_2 next__3 token_4 value_5 error_6 errorAt_7 hc) (cwV 1 hts gX9_regionLine_X9_opens rfl rfl rfl (by decide +kernel) ⟨Nat.le_of_ble_eq_true rfl, Nat.le_of_ble_eq_true rfl⟩) [0, 2] [1, 3, 4, 5] [4, 0, 5, 1, 2, 3] (by exact ⟨rfl, rfl, by decide, rfl⟩) 0 9 rfl rfl rfl rfl hl.1 rfl (Nat.le_of_ble_eq_true rfl) dX9_regionLine_27 ⟨Nat.le_refl _, Nat.le_refl _⟩ (fun H locs hz hP hD hS => ?_)
    have hz_8 := hz
    refine lv_if_eq (tgt := 43) hx hb dX9_regionLine_30 (by decide) (fun hc => ?_) (fun hc => ?_)
    · have hf := o_t hc hf
      refine lv_iconst (v := 0) hx hb dX9_regionLine_43 (by decide) ?_
      cases hf
      exact kR _ _ _ _ (Or.inl rfl) hP hD hS dX9_regionLine_44
    · have hf := o_f hc hf
      refine lv_aload_n hx hb dX9_regionLine_33 rfl (lv_at hl 0 rfl) ?_
      refine lv_iconst (v := 0) hx hb dX9_regionLine_34 (by decide) ?_
      refine lv_bipush (v := 10) hx hb dX9_regionLine_35 (by decide) ?_
      obtain ⟨r_9, start_10, next__11, token_12, value_13, error_14, errorAt_15, number_16, hc, hf⟩ := ob8_some hf
      refine g_VZ (As := [.int 0, .int 10]) (rest := []) (ws' := (w_X9_regionLine kc a0 a1 a2 a3 a4 a5 a6 a7 a8 a9 a10 a11 a12 a13 a14 a15 a16 a17 a18 a19 a20 a21 a22 a23 a24 a25 a26 a27 a28 thrown loftSize startWind seed draftLoft draftStart draftSeed length textSize start_10 next__11 token_12 value_13 error_14 errorAt_15 number_16 undos regions text risk distance comesBack)) ⟨hx, hb, hml, hown, hts⟩ hN hK hP hD hS hA (c_X9_takes l D kc N a0 a1 a2 a3 a4 a5 a6 a7 a8 a9 a10 a11 a12 a13 a14 a15 a16 a17 a18 a19 a20 a21 a22 a23 a24 a25 a26 a27 a28 thrown loftSize startWind seed draftLoft draftStart draftSeed length textSize start_2 next__3 token_4 value_5 error_6 errorAt_7 number undos text 0 10 r_9 start_10 next__11 token_12 value_13 error_14 errorAt_15 number_16 hc) (cwV 2 hts gX9_regionLine_X9_takes rfl rfl rfl (by decide +kernel) ⟨Nat.le_of_ble_eq_true rfl, Nat.le_of_ble_eq_true rfl⟩) [0, 2] [1, 3, 4, 5] [4, 0, 5, 1, 2, 3] (by exact ⟨rfl, rfl, by decide, rfl⟩) 0 9 rfl rfl rfl rfl hl.1 rfl (Nat.le_of_ble_eq_true rfl) dX9_regionLine_37 ⟨Nat.le_refl _, Nat.le_refl _⟩ (fun H locs hz hP hD hS => ?_)
      have hz_17 := hz
      refine lv_if_ne (tgt := 45) hx hb dX9_regionLine_40 (by decide) (fun hc => ?_) (fun hc => ?_)
      · have hf := o_f hc hf
        refine lv_aload_n hx hb dX9_regionLine_45 rfl (lv_at hl 0 rfl) ?_
        refine va_get (D := D) (ci := 9) (v := .ref a3) (C := RX9) (T := TX9) (N := 45) hx hb hts in_X9 hown hK hP 0 rfl rfl 3 (by decide) lk_20 (fun _ h9 => h9) rfl dX9_regionLine_46 ?_
        refine lv_iload_n hx hb dX9_regionLine_49 rfl (lv_at hl 1 rfl) ?_
        refine lv_aload_n hx hb dX9_regionLine_50 rfl (lv_at hl 0 rfl) ?_
        refine va_get (D := D) (ci := 9) (v := .int number_16) (C := RX9) (T := TX9) (N := 45) hx hb hts in_X9 hown hK hP 0 rfl rfl 35 (by decide) lk_159 (fun _ h9 => h9) rfl dX9_regionLine_51 ?_
        obtain ⟨hi, hf⟩ := gIx_some hf
        refine va_iast hx hb hK hP hD hS 3 1 rfl rfl hi dX9_regionLine_54 (fun H locs hP hD hS => ?_)
        have hP : va_P D vwCl (w_X9_regionLine kc a0 a1 a2 a3 a4 a5 a6 a7 a8 a9 a10 a11 a12 a13 a14 a15 a16 a17 a18 a19 a20 a21 a22 a23 a24 a25 a26 a27 a28 thrown loftSize startWind seed draftLoft draftStart draftSeed length textSize start_10 next__11 token_12 value_13 error_14 errorAt_15 number_16 undos regions text (upd risk (y1_27 : Int32).toNatClampNeg number_16) distance comesBack) H := hP
        have hD : va_D A (w_X9_regionLine kc a0 a1 a2 a3 a4 a5 a6 a7 a8 a9 a10 a11 a12 a13 a14 a15 a16 a17 a18 a19 a20 a21 a22 a23 a24 a25 a26 a27 a28 thrown loftSize startWind seed draftLoft draftStart draftSeed length textSize start_10 next__11 token_12 value_13 error_14 errorAt_15 number_16 undos regions text (upd risk (y1_27 : Int32).toNatClampNeg number_16) distance comesBack) := hD
        refine lv_aload_n hx hb dX9_regionLine_55 rfl (lv_at hl 0 rfl) ?_
        refine lv_iconst (v := 1) hx hb dX9_regionLine_56 (by decide) ?_
        refine lv_bipush (v := 9) hx hb dX9_regionLine_57 (by decide) ?_
        obtain ⟨r_18, start_19, next__20, token_21, value_22, error_23, errorAt_24, number_25, hc, hf⟩ := ob8_some hf
        refine g_VZ (As := [.int 1, .int 9]) (rest := []) (ws' := (w_X9_regionLine kc a0 a1 a2 a3 a4 a5 a6 a7 a8 a9 a10 a11 a12 a13 a14 a15 a16 a17 a18 a19 a20 a21 a22 a23 a24 a25 a26 a27 a28 thrown loftSize startWind seed draftLoft draftStart draftSeed length textSize start_19 next__20 token_21 value_22 error_23 errorAt_24 number_25 undos regions text (upd risk (y1_27 : Int32).toNatClampNeg number_16) distance comesBack)) ⟨hx, hb, hml, hown, hts⟩ hN hK hP hD hS hA (c_X9_takes l D kc N a0 a1 a2 a3 a4 a5 a6 a7 a8 a9 a10 a11 a12 a13 a14 a15 a16 a17 a18 a19 a20 a21 a22 a23 a24 a25 a26 a27 a28 thrown loftSize startWind seed draftLoft draftStart draftSeed length textSize start_10 next__11 token_12 value_13 error_14 errorAt_15 number_16 undos text 1 9 r_18 start_19 next__20 token_21 value_22 error_23 errorAt_24 number_25 hc) (cwV 2 hts gX9_regionLine_X9_takes rfl rfl rfl (by decide +kernel) ⟨Nat.le_of_ble_eq_true rfl, Nat.le_of_ble_eq_true rfl⟩) [0, 2] [1, 3, 4, 5] [4, 0, 5, 1, 2, 3] (by exact ⟨rfl, rfl, by decide, rfl⟩) 0 9 rfl rfl rfl rfl hl.1 rfl (Nat.le_of_ble_eq_true rfl) dX9_regionLine_59 ⟨Nat.le_refl _, Nat.le_refl _⟩ (fun H locs hz hP hD hS => ?_)
        have hz_26 := hz
        refine lv_if_ne (tgt := 67) hx hb dX9_regionLine_62 (by decide) (fun hc => ?_) (fun hc => ?_)
        · have hf := o_f hc hf
          refine lv_aload_n hx hb dX9_regionLine_67 rfl (lv_at hl 0 rfl) ?_
          refine va_get (D := D) (ci := 9) (v := .ref a4) (C := RX9) (T := TX9) (N := 45) hx hb hts in_X9 hown hK hP 0 rfl rfl 4 (by decide) lk_23 (fun _ h9 => h9) rfl dX9_regionLine_68 ?_
          refine lv_iload_n hx hb dX9_regionLine_71 rfl (lv_at hl 1 rfl) ?_
          refine lv_aload_n hx hb dX9_regionLine_72 rfl (lv_at hl 0 rfl) ?_
          refine va_get (D := D) (ci := 9) (v := .int number_25) (C := RX9) (T := TX9) (N := 45) hx hb hts in_X9 hown hK hP 0 rfl rfl 35 (by decide) lk_159 (fun _ h9 => h9) rfl dX9_regionLine_73 ?_
          obtain ⟨hi, hf⟩ := gIx_some hf
          refine va_iast hx hb hK hP hD hS 4 1 rfl rfl hi dX9_regionLine_76 (fun H locs hP hD hS => ?_)
          have hP : va_P D vwCl (w_X9_regionLine kc a0 a1 a2 a3 a4 a5 a6 a7 a8 a9 a10 a11 a12 a13 a14 a15 a16 a17 a18 a19 a20 a21 a22 a23 a24 a25 a26 a27 a28 thrown loftSize startWind seed draftLoft draftStart draftSeed length textSize start_19 next__20 token_21 value_22 error_23 errorAt_24 number_25 undos regions text (upd risk (y1_27 : Int32).toNatClampNeg number_16) (upd distance (y1_27 : Int32).toNatClampNeg number_25) comesBack) H := hP
          have hD : va_D A (w_X9_regionLine kc a0 a1 a2 a3 a4 a5 a6 a7 a8 a9 a10 a11 a12 a13 a14 a15 a16 a17 a18 a19 a20 a21 a22 a23 a24 a25 a26 a27 a28 thrown loftSize startWind seed draftLoft draftStart draftSeed length textSize start_19 next__20 token_21 value_22 error_23 errorAt_24 number_25 undos regions text (upd risk (y1_27 : Int32).toNatClampNeg number_16) (upd distance (y1_27 : Int32).toNatClampNeg number_25) comesBack) := hD
          refine lv_aload_n hx hb dX9_regionLine_77 rfl (lv_at hl 0 rfl) ?_
          refine lv_iconst (v := 0) hx hb dX9_regionLine_78 (by decide) ?_
          refine lv_bipush (v := 10) hx hb dX9_regionLine_79 (by decide) ?_
          obtain ⟨r_27, start_28, next__29, token_30, value_31, error_32, errorAt_33, number_34, hc, hf⟩ := ob8_some hf
          refine g_VZ (As := [.int 0, .int 10]) (rest := []) (ws' := (w_X9_regionLine kc a0 a1 a2 a3 a4 a5 a6 a7 a8 a9 a10 a11 a12 a13 a14 a15 a16 a17 a18 a19 a20 a21 a22 a23 a24 a25 a26 a27 a28 thrown loftSize startWind seed draftLoft draftStart draftSeed length textSize start_28 next__29 token_30 value_31 error_32 errorAt_33 number_34 undos regions text (upd risk (y1_27 : Int32).toNatClampNeg number_16) (upd distance (y1_27 : Int32).toNatClampNeg number_25) comesBack)) ⟨hx, hb, hml, hown, hts⟩ hN hK hP hD hS hA (c_X9_takes l D kc N a0 a1 a2 a3 a4 a5 a6 a7 a8 a9 a10 a11 a12 a13 a14 a15 a16 a17 a18 a19 a20 a21 a22 a23 a24 a25 a26 a27 a28 thrown loftSize startWind seed draftLoft draftStart draftSeed length textSize start_19 next__20 token_21 value_22 error_23 errorAt_24 number_25 undos text 0 10 r_27 start_28 next__29 token_30 value_31 error_32 errorAt_33 number_34 hc) (cwV 2 hts gX9_regionLine_X9_takes rfl rfl rfl (by decide +kernel) ⟨Nat.le_of_ble_eq_true rfl, Nat.le_of_ble_eq_true rfl⟩) [0, 2] [1, 3, 4, 5] [4, 0, 5, 1, 2, 3] (by exact ⟨rfl, rfl, by decide, rfl⟩) 0 9 rfl rfl rfl rfl hl.1 rfl (Nat.le_of_ble_eq_true rfl) dX9_regionLine_81 ⟨Nat.le_refl _, Nat.le_refl _⟩ (fun H locs hz hP hD hS => ?_)
          have hz_35 := hz
          refine lv_if_ne (tgt := 89) hx hb dX9_regionLine_84 (by decide) (fun hc => ?_) (fun hc => ?_)
          · have hf := o_f hc hf
            refine lv_aload_n hx hb dX9_regionLine_89 rfl (lv_at hl 0 rfl) ?_
            refine va_get (D := D) (ci := 9) (v := .ref a5) (C := RX9) (T := TX9) (N := 45) hx hb hts in_X9 hown hK hP 0 rfl rfl 5 (by decide) lk_26 (fun _ h9 => h9) rfl dX9_regionLine_90 ?_
            refine lv_iload_n hx hb dX9_regionLine_93 rfl (lv_at hl 1 rfl) ?_
            refine lv_aload_n hx hb dX9_regionLine_94 rfl (lv_at hl 0 rfl) ?_
            refine va_get (D := D) (ci := 9) (v := .int number_34) (C := RX9) (T := TX9) (N := 45) hx hb hts in_X9 hown hK hP 0 rfl rfl 35 (by decide) lk_159 (fun _ h9 => h9) rfl dX9_regionLine_95 ?_
            obtain ⟨hi, hf⟩ := gIx_some hf
            refine va_iast hx hb hK hP hD hS 5 1 rfl rfl hi dX9_regionLine_98 (fun H locs hP hD hS => ?_)
            have hP : va_P D vwCl (w_X9_regionLine kc a0 a1 a2 a3 a4 a5 a6 a7 a8 a9 a10 a11 a12 a13 a14 a15 a16 a17 a18 a19 a20 a21 a22 a23 a24 a25 a26 a27 a28 thrown loftSize startWind seed draftLoft draftStart draftSeed length textSize start_28 next__29 token_30 value_31 error_32 errorAt_33 number_34 undos regions text (upd risk (y1_27 : Int32).toNatClampNeg number_16) (upd distance (y1_27 : Int32).toNatClampNeg number_25) (upd comesBack (y1_27 : Int32).toNatClampNeg number_34)) H := hP
            have hD : va_D A (w_X9_regionLine kc a0 a1 a2 a3 a4 a5 a6 a7 a8 a9 a10 a11 a12 a13 a14 a15 a16 a17 a18 a19 a20 a21 a22 a23 a24 a25 a26 a27 a28 thrown loftSize startWind seed draftLoft draftStart draftSeed length textSize start_28 next__29 token_30 value_31 error_32 errorAt_33 number_34 undos regions text (upd risk (y1_27 : Int32).toNatClampNeg number_16) (upd distance (y1_27 : Int32).toNatClampNeg number_25) (upd comesBack (y1_27 : Int32).toNatClampNeg number_34)) := hD
            refine lv_aload_n hx hb dX9_regionLine_99 rfl (lv_at hl 0 rfl) ?_
            refine va_get (D := D) (ci := 9) (v := .ref a2) (C := RX9) (T := TX9) (N := 45) hx hb hts in_X9 hown hK hP 0 rfl rfl 2 (by decide) lk_17 (fun _ h9 => h9) rfl dX9_regionLine_100 ?_
            refine lv_iconst (v := 1) hx hb dX9_regionLine_103 (by decide) ?_
            refine lv_dup2_11 hx hb dX9_regionLine_104 rfl rfl ?_
            obtain ⟨hi, hf⟩ := gIx_some hf
            refine va_iald hx hb hK hP 1 1 rfl rfl hi dX9_regionLine_105 ?_
            refine lv_iconst (v := 1) hx hb dX9_regionLine_106 (by decide) ?_
            refine lv_iadd hx hb dX9_regionLine_107 ?_
            obtain ⟨hi, hf⟩ := gIx_some hf
            refine va_iast hx hb hK hP hD hS 1 1 rfl rfl hi dX9_regionLine_108 (fun H locs hP hD hS => ?_)
            have hP : va_P D vwCl (w_X9_regionLine kc a0 a1 a2 a3 a4 a5 a6 a7 a8 a9 a10 a11 a12 a13 a14 a15 a16 a17 a18 a19 a20 a21 a22 a23 a24 a25 a26 a27 a28 thrown loftSize startWind seed draftLoft draftStart draftSeed length textSize start_28 next__29 token_30 value_31 error_32 errorAt_33 number_34 undos (upd regions (1 : Int32).toNatClampNeg ((regions (1 : Int32).toNatClampNeg) + 1)) text (upd risk (y1_27 : Int32).toNatClampNeg number_16) (upd distance (y1_27 : Int32).toNatClampNeg number_25) (upd comesBack (y1_27 : Int32).toNatClampNeg number_34)) H := hP
            have hD : va_D A (w_X9_regionLine kc a0 a1 a2 a3 a4 a5 a6 a7 a8 a9 a10 a11 a12 a13 a14 a15 a16 a17 a18 a19 a20 a21 a22 a23 a24 a25 a26 a27 a28 thrown loftSize startWind seed draftLoft draftStart draftSeed length textSize start_28 next__29 token_30 value_31 error_32 errorAt_33 number_34 undos (upd regions (1 : Int32).toNatClampNeg ((regions (1 : Int32).toNatClampNeg) + 1)) text (upd risk (y1_27 : Int32).toNatClampNeg number_16) (upd distance (y1_27 : Int32).toNatClampNeg number_25) (upd comesBack (y1_27 : Int32).toNatClampNeg number_34)) := hD
            refine lv_iconst (v := 1) hx hb dX9_regionLine_109 (by decide) ?_
            cases hf
            exact kR _ _ _ _ (Or.inr rfl) hP hD hS dX9_regionLine_110
          · have hf := o_t hc hf
            refine lv_iconst (v := 0) hx hb dX9_regionLine_87 (by decide) ?_
            cases hf
            exact kR _ _ _ _ (Or.inl rfl) hP hD hS dX9_regionLine_88
        · have hf := o_t hc hf
          refine lv_iconst (v := 0) hx hb dX9_regionLine_65 (by decide) ?_
          cases hf
          exact kR _ _ _ _ (Or.inl rfl) hP hD hS dX9_regionLine_66
      · have hf := o_t hc hf
        refine lv_iconst (v := 0) hx hb dX9_regionLine_43 (by decide) ?_
        cases hf
        exact kR _ _ _ _ (Or.inl rfl) hP hD hS dX9_regionLine_44
  unfold f_X9_regionLine at hf
  refine lv_bipush (v := 8) hx hb dX9_regionLine_0 (by decide) ?_
  refine lv_aload_n hx hb dX9_regionLine_2 rfl (lv_at hl 0 rfl) ?_
  refine va_get (D := D) (ci := 9) (v := .ref a2) (C := RX9) (T := TX9) (N := 45) hx hb hts in_X9 hown hK hP 0 rfl rfl 2 (by decide) lk_17 (fun _ h9 => h9) rfl dX9_regionLine_3 ?_
  refine lv_iconst (v := 1) hx hb dX9_regionLine_6 (by decide) ?_
  obtain ⟨hi, hf⟩ := gIx_some hf
  refine va_iald hx hb hK hP 1 1 rfl rfl hi dX9_regionLine_7 ?_
  refine lv_iadd hx hb dX9_regionLine_8 ?_
  refine lv_istore_n (lv' := [(1, .int (8 + (regions (1 : Int32).toNatClampNeg))), (0, .ref a0)]) hx hb dX9_regionLine_9 rfl hl (by decide) rfl (fun ls hl => ?_)
  refine lv_aload_n hx hb dX9_regionLine_10 rfl (lv_at hl 1 rfl) ?_
  refine lv_aload_n hx hb dX9_regionLine_11 rfl (lv_at hl 1 rfl) ?_
  refine va_get (D := D) (ci := 9) (v := .ref a2) (C := RX9) (T := TX9) (N := 45) hx hb hts in_X9 hown hK hP 0 rfl rfl 2 (by decide) lk_17 (fun _ h9 => h9) rfl dX9_regionLine_12 ?_
  refine lv_iconst (v := 1) hx hb dX9_regionLine_15 (by decide) ?_
  obtain ⟨hi, hf⟩ := gIx_some hf
  refine va_iald hx hb hK hP 1 1 rfl rfl hi dX9_regionLine_16 ?_
  refine lv_bipush (v := 8) hx hb dX9_regionLine_17 (by decide) ?_
  refine lv_icmp_ge (tgt := 26) hx hb dX9_regionLine_19 (by decide) (fun hc => ?_) (fun hc => ?_)
  · have hf := o_t hc hf
    refine lv_iconst (v := 0) hx hb dX9_regionLine_26 (by decide) ?_
    exact J27 _ _ hf _ _ _ hP hD hS (lv_sub hl [1, 0] rfl)
  · have hf := o_f hc hf
    refine lv_iconst (v := 1) hx hb dX9_regionLine_22 (by decide) ?_
    refine lv_goto (tgt := 27) hx hb dX9_regionLine_23 (by decide) ?_
    exact J27 _ _ hf _ _ _ hP hD hS (lv_sub hl [1, 0] rfl)
abbrev w_X9_windLine (kc : Nat → ClassId) (a0 a1 a2 a3 a4 a5 a6 a7 a8 a9 a10 a11 a12 a13 a14 a15 a16 a17 a18 a19 a20 a21 a22 a23 a24 a25 a26 a27 a28 : Nat) (thrown : Int32) (loftSize : Int32) (startWind : Int32) (seed : Int32) (draftLoft : Int32) (draftStart : Int32) (draftSeed : Int32) (length : Int32) (textSize : Int32) (start : Int32) (next_ : Int32) (token : Int32) (value : Int32) (error : Int32) (errorAt : Int32) (number : Int32) (undos : Int32) (winds : Nat → Int32) (text : Nat → Int32) (regions : Nat → Int32) (namedRegion : Nat → Int32) (namedWeight : Nat → Int32) (named : Nat → Int32) : va_W := [(a0, .inr (9, [.int thrown, .ref a1, .ref a2, .ref a3, .ref a4, .ref a5, .ref a6, .ref a7, .ref a8, .ref a9, .ref a10, .ref a11, .ref a12, .ref a13, .ref a14, .ref a15, .ref a16, .ref a17, .ref a18, .ref a19, .int loftSize, .int startWind, .int seed, .int draftLoft, .int draftStart, .int draftSeed, .ref a20, .int length, .int textSize, .int start, .int next_, .int token, .int value, .int error, .int errorAt, .int number, .ref a21, .ref a22, .ref a23, .ref a24, .ref a25, .int undos, .ref a26, .ref a27, .ref a28])), (a6, .inl (kc 1, 2, .inl winds)), (a20, .inl (kc 0, 900, .inl text)), (a2, .inl (kc 1, 2, .inl regions)), (a8, .inl (kc 1, 96, .inl namedRegion)), (a9, .inl (kc 1, 96, .inl namedWeight)), (a7, .inl (kc 1, 12, .inl named))]
set_option maxHeartbeats 4000000 in
set_option maxRecDepth 100000 in
theorem c_X9_windLine (l : Launch) (D : va_G) (kc : Nat → ClassId) (N : Nat) (a0 a1 a2 a3 a4 a5 a6 a7 a8 a9 a10 a11 a12 a13 a14 a15 a16 a17 a18 a19 a20 a21 a22 a23 a24 a25 a26 a27 a28 : Nat) (thrown : Int32) (loftSize : Int32) (startWind : Int32) (seed : Int32) (draftLoft : Int32) (draftStart : Int32) (draftSeed : Int32) (length : Int32) (textSize : Int32) (start : Int32) (next_ : Int32) (token : Int32) (value : Int32) (error : Int32) (errorAt : Int32) (number : Int32) (undos : Int32) (winds : Nat → Int32) (text : Nat → Int32) (regions : Nat → Int32) (namedRegion : Nat → Int32) (namedWeight : Nat → Int32) (named : Nat → Int32) (r_ : Int32) (start' : Int32) (next_' : Int32) (token' : Int32) (value' : Int32) (error' : Int32) (errorAt' : Int32) (number' : Int32) (winds' : Nat → Int32) (namedRegion' : Nat → Int32) (namedWeight' : Nat → Int32) (named' : Nat → Int32) (hf : f_X9_windLine N textSize start next_ token value error errorAt number winds text regions namedRegion namedWeight named = some (r_, start', next_', token', value', error', errorAt', number', winds', namedRegion', namedWeight', named')) : MZ l yX9_windLine wsX9_windLine ({ frames := 3, cells := 0, slots := 0, locals := 65 }) D kc [.ref a0] (w_X9_windLine kc a0 a1 a2 a3 a4 a5 a6 a7 a8 a9 a10 a11 a12 a13 a14 a15 a16 a17 a18 a19 a20 a21 a22 a23 a24 a25 a26 a27 a28 thrown loftSize startWind seed draftLoft draftStart draftSeed length textSize start next_ token value error errorAt number undos winds text regions namedRegion namedWeight named) (w_X9_windLine kc a0 a1 a2 a3 a4 a5 a6 a7 a8 a9 a10 a11 a12 a13 a14 a15 a16 a17 a18 a19 a20 a21 a22 a23 a24 a25 a26 a27 a28 thrown loftSize startWind seed draftLoft draftStart draftSeed length textSize start' next_' token' value' error' errorAt' number' undos winds' text regions namedRegion' namedWeight' named') r_ := by
  refine gM_Z (cc := cX9_windLine) (maxL := 5) (by decide) rfl (Nat.le_of_ble_eq_true rfl) ?_
  intro p e s m below meth c A ls Q hx hb hml hown hts hN hK hP hD hA hl kR
  have hS : va_S A s.heap s.heap [] := va_S.rf
  have hl : lv_has ls 5 [(0, .ref a0)] := hl
  have in_X9 : ∀ w ∈ u_ws RX9 TX9 45, w ∈ wsX9_windLine := by decide +kernel
  have lk_29 := hts (.fieldLink RX9 29 "BalloonMailModel" "winds" "[I") (by decide +kernel)
  have lk_136 := hts (.fieldLink RX9 136 "BalloonMailModel" "token" "I") (by decide +kernel)
  have lk_32 := hts (.fieldLink RX9 32 "BalloonMailModel" "named" "[I") (by decide +kernel)
  have lk_133 := hts (.fieldLink RX9 133 "BalloonMailModel" "value" "I") (by decide +kernel)
  have lk_17 := hts (.fieldLink RX9 17 "BalloonMailModel" "regions" "[I") (by decide +kernel)
  have lk_159 := hts (.fieldLink RX9 159 "BalloonMailModel" "number" "I") (by decide +kernel)
  have lk_35 := hts (.fieldLink RX9 35 "BalloonMailModel" "namedRegion" "[I") (by decide +kernel)
  have lk_38 := hts (.fieldLink RX9 38 "BalloonMailModel" "namedWeight" "[I") (by decide +kernel)
  have J27 : ∀ (y1_27 : Int32) (k1_27 : Int32), f_X9_windLine_j27 N textSize start next_ token value error errorAt number winds text regions namedRegion namedWeight named y1_27 k1_27 = some (r_, start', next_', token', value', error', errorAt', number', winds', namedRegion', namedWeight', named') → ∀ (H : Heap) (locs : List Loc) (ls : Array Slot), va_P D vwCl (w_X9_windLine kc a0 a1 a2 a3 a4 a5 a6 a7 a8 a9 a10 a11 a12 a13 a14 a15 a16 a17 a18 a19 a20 a21 a22 a23 a24 a25 a26 a27 a28 thrown loftSize startWind seed draftLoft draftStart draftSeed length textSize start next_ token value error errorAt number undos winds text regions namedRegion namedWeight named) H → va_D A (w_X9_windLine kc a0 a1 a2 a3 a4 a5 a6 a7 a8 a9 a10 a11 a12 a13 a14 a15 a16 a17 a18 a19 a20 a21 a22 a23 a24 a25 a26 a27 a28 thrown loftSize startWind seed draftLoft draftStart draftSeed length textSize start next_ token value error errorAt number undos winds text regions namedRegion namedWeight named) → va_S A s.heap H locs → lv_has ls 5 [(0, .ref a0), (1, .int y1_27)] → W p l e ({ frames := 3, cells := 0, slots := 0, locals := 65 }) s m (([.ref a0] : List Value).toArray) below meth c H locs 0 0 Q (F0 m 27 ls [.int k1_27, .ref a0]) := by
    clear hf
    intro y1_27 k1_27 hf H locs ls hP hD hS hl
    unfold f_X9_windLine_j27 at hf
    obtain ⟨r_1, start_2, next__3, token_4, value_5, error_6, errorAt_7, hc, hf⟩ := ob7_some hf
    refine g_VZ (As := [.int k1_27]) (rest := []) (ws' := (w_X9_windLine kc a0 a1 a2 a3 a4 a5 a6 a7 a8 a9 a10 a11 a12 a13 a14 a15 a16 a17 a18 a19 a20 a21 a22 a23 a24 a25 a26 a27 a28 thrown loftSize startWind seed draftLoft draftStart draftSeed length textSize start_2 next__3 token_4 value_5 error_6 errorAt_7 number undos winds text regions namedRegion namedWeight named)) ⟨hx, hb, hml, hown, hts⟩ hN hK hP hD hS hA (c_X9_opens l D kc N a0 a1 a2 a3 a4 a5 a6 a7 a8 a9 a10 a11 a12 a13 a14 a15 a16 a17 a18 a19 a20 a21 a22 a23 a24 a25 a26 a27 a28 thrown loftSize startWind seed draftLoft draftStart draftSeed length textSize start next_ token value error errorAt number undos text k1_27 r_1 start_2 next__3 token_4 value_5 error_6 errorAt_7 hc) (cwV 1 hts gX9_windLine_X9_opens rfl rfl rfl (by decide +kernel) ⟨Nat.le_of_ble_eq_true rfl, Nat.le_of_ble_eq_true rfl⟩) [0, 2] [1, 3, 4, 5, 6] [5, 0, 6, 1, 2, 3, 4] (by exact ⟨rfl, rfl, by decide, rfl⟩) 0 9 rfl rfl rfl rfl hl.1 rfl (Nat.le_of_ble_eq_true rfl) dX9_windLine_27 ⟨Nat.le_refl _, Nat.le_refl _⟩ (fun H locs hz hP hD hS => ?_)
    have hz_8 := hz
    refine lv_if_ne (tgt := 35) hx hb dX9_windLine_30 (by decide) (fun hc => ?_) (fun hc => ?_)
    · have hf := o_f hc hf
      refine lv_iconst (v := 0) hx hb dX9_windLine_35 (by decide) ?_
      refine lv_istore_n (lv' := [(2, .int 0), (0, .ref a0), (1, .int y1_27)]) hx hb dX9_windLine_36 rfl hl (by decide) rfl (fun ls hl => ?_)
      refine lv_iconst (v := 0) hx hb dX9_windLine_37 (by decide) ?_
      refine lv_istore_n (lv' := [(3, .int 0), (2, .int 0), (0, .ref a0), (1, .int y1_27)]) hx hb dX9_windLine_38 rfl hl (by decide) rfl (fun ls hl => ?_)
      refine lv_iconst (v := 0) hx hb dX9_windLine_39 (by decide) ?_
      refine lv_istore (lv' := [(4, .int 0), (3, .int 0), (2, .int 0), (0, .ref a0), (1, .int y1_27)]) hx hb dX9_windLine_40 hl (by decide) rfl (fun ls hl => ?_)
      have L42 : ∀ (n : Nat) (y4_42 : Int32) (y3_42 : Int32) (y2_42 : Int32) (start_42 : Int32) (next__42 : Int32) (token_42 : Int32) (value_42 : Int32) (error_42 : Int32) (errorAt_42 : Int32) (number_42 : Int32) (namedRegion_42 : Nat → Int32) (namedWeight_42 : Nat → Int32), f_X9_windLine_42 N textSize winds text regions named y1_27 n y4_42 y3_42 y2_42 start_42 next__42 token_42 value_42 error_42 errorAt_42 number_42 namedRegion_42 namedWeight_42 = some (r_, start', next_', token', value', error', errorAt', number', winds', namedRegion', namedWeight', named') → ∀ (H : Heap) (locs : List Loc) (ls : Array Slot), va_P D vwCl (w_X9_windLine kc a0 a1 a2 a3 a4 a5 a6 a7 a8 a9 a10 a11 a12 a13 a14 a15 a16 a17 a18 a19 a20 a21 a22 a23 a24 a25 a26 a27 a28 thrown loftSize startWind seed draftLoft draftStart draftSeed length textSize start_42 next__42 token_42 value_42 error_42 errorAt_42 number_42 undos winds text regions namedRegion_42 namedWeight_42 named) H → va_D A (w_X9_windLine kc a0 a1 a2 a3 a4 a5 a6 a7 a8 a9 a10 a11 a12 a13 a14 a15 a16 a17 a18 a19 a20 a21 a22 a23 a24 a25 a26 a27 a28 thrown loftSize startWind seed draftLoft draftStart draftSeed length textSize start_42 next__42 token_42 value_42 error_42 errorAt_42 number_42 undos winds text regions namedRegion_42 namedWeight_42 named) → va_S A s.heap H locs → lv_has ls 5 [(0, .ref a0), (1, .int y1_27), (2, .int y2_42), (3, .int y3_42), (4, .int y4_42)] → W p l e ({ frames := 3, cells := 0, slots := 0, locals := 65 }) s m (([.ref a0] : List Value).toArray) below meth c H locs 0 0 Q (F0 m 42 ls []) := by
        clear hf
        intro n
        induction n with
        | zero => intro _ _ _ _ _ _ _ _ _ _ _ _ hf; rw [f_X9_windLine_42.eq_1] at hf; cases hf
        | succ n ih =>
          intro y4_42 y3_42 y2_42 start_42 next__42 token_42 value_42 error_42 errorAt_42 number_42 namedRegion_42 namedWeight_42 hf H locs ls hP hD hS hl
          rw [f_X9_windLine_42.eq_2] at hf
          refine lv_aload_n hx hb dX9_windLine_42 rfl (lv_at hl 0 rfl) ?_
          refine va_get (D := D) (ci := 9) (v := .int token_42) (C := RX9) (T := TX9) (N := 45) hx hb hts in_X9 hown hK hP 0 rfl rfl 31 (by decide) lk_136 (fun _ h9 => h9) rfl dX9_windLine_43 ?_
          refine lv_iconst (v := 2) hx hb dX9_windLine_46 (by decide) ?_
          refine lv_icmp_ne (tgt := 167) hx hb dX9_windLine_47 (by decide) (fun hc => ?_) (fun hc => ?_)
          · have hf := o_f hc hf
            refine lv_aload_n hx hb dX9_windLine_167 rfl (lv_at hl 0 rfl) ?_
            refine va_get (D := D) (ci := 9) (v := .ref a7) (C := RX9) (T := TX9) (N := 45) hx hb hts in_X9 hown hK hP 0 rfl rfl 7 (by decide) lk_32 (fun _ h9 => h9) rfl dX9_windLine_168 ?_
            refine lv_iload_n hx hb dX9_windLine_171 rfl (lv_at hl 1 rfl) ?_
            refine lv_iload_n hx hb dX9_windLine_172 rfl (lv_at hl 2 rfl) ?_
            obtain ⟨hi, hf⟩ := gIx_some hf
            refine va_iast hx hb hK hP hD hS 6 1 rfl rfl hi dX9_windLine_173 (fun H locs hP hD hS => ?_)
            have hP : va_P D vwCl (w_X9_windLine kc a0 a1 a2 a3 a4 a5 a6 a7 a8 a9 a10 a11 a12 a13 a14 a15 a16 a17 a18 a19 a20 a21 a22 a23 a24 a25 a26 a27 a28 thrown loftSize startWind seed draftLoft draftStart draftSeed length textSize start_42 next__42 token_42 value_42 error_42 errorAt_42 number_42 undos winds text regions namedRegion_42 namedWeight_42 (upd named (y1_27 : Int32).toNatClampNeg y2_42)) H := hP
            have hD : va_D A (w_X9_windLine kc a0 a1 a2 a3 a4 a5 a6 a7 a8 a9 a10 a11 a12 a13 a14 a15 a16 a17 a18 a19 a20 a21 a22 a23 a24 a25 a26 a27 a28 thrown loftSize startWind seed draftLoft draftStart draftSeed length textSize start_42 next__42 token_42 value_42 error_42 errorAt_42 number_42 undos winds text regions namedRegion_42 namedWeight_42 (upd named (y1_27 : Int32).toNatClampNeg y2_42)) := hD
            refine lv_aload_n hx hb dX9_windLine_174 rfl (lv_at hl 0 rfl) ?_
            refine va_get (D := D) (ci := 9) (v := .ref a6) (C := RX9) (T := TX9) (N := 45) hx hb hts in_X9 hown hK hP 0 rfl rfl 6 (by decide) lk_29 (fun _ h9 => h9) rfl dX9_windLine_175 ?_
            refine lv_iconst (v := 1) hx hb dX9_windLine_178 (by decide) ?_
            refine lv_dup2_11 hx hb dX9_windLine_179 rfl rfl ?_
            obtain ⟨hi, hf⟩ := gIx_some hf
            refine va_iald hx hb hK hP 1 1 rfl rfl hi dX9_windLine_180 ?_
            refine lv_iconst (v := 1) hx hb dX9_windLine_181 (by decide) ?_
            refine lv_iadd hx hb dX9_windLine_182 ?_
            obtain ⟨hi, hf⟩ := gIx_some hf
            refine va_iast hx hb hK hP hD hS 1 1 rfl rfl hi dX9_windLine_183 (fun H locs hP hD hS => ?_)
            have hP : va_P D vwCl (w_X9_windLine kc a0 a1 a2 a3 a4 a5 a6 a7 a8 a9 a10 a11 a12 a13 a14 a15 a16 a17 a18 a19 a20 a21 a22 a23 a24 a25 a26 a27 a28 thrown loftSize startWind seed draftLoft draftStart draftSeed length textSize start_42 next__42 token_42 value_42 error_42 errorAt_42 number_42 undos (upd winds (1 : Int32).toNatClampNeg ((winds (1 : Int32).toNatClampNeg) + 1)) text regions namedRegion_42 namedWeight_42 (upd named (y1_27 : Int32).toNatClampNeg y2_42)) H := hP
            have hD : va_D A (w_X9_windLine kc a0 a1 a2 a3 a4 a5 a6 a7 a8 a9 a10 a11 a12 a13 a14 a15 a16 a17 a18 a19 a20 a21 a22 a23 a24 a25 a26 a27 a28 thrown loftSize startWind seed draftLoft draftStart draftSeed length textSize start_42 next__42 token_42 value_42 error_42 errorAt_42 number_42 undos (upd winds (1 : Int32).toNatClampNeg ((winds (1 : Int32).toNatClampNeg) + 1)) text regions namedRegion_42 namedWeight_42 (upd named (y1_27 : Int32).toNatClampNeg y2_42)) := hD
            refine lv_iconst (v := 1) hx hb dX9_windLine_184 (by decide) ?_
            cases hf
            exact kR _ _ _ _ (Or.inr rfl) hP hD hS dX9_windLine_185
          · have hf := o_t hc hf
            refine lv_aload_n hx hb dX9_windLine_50 rfl (lv_at hl 0 rfl) ?_
            refine va_get (D := D) (ci := 9) (v := .int value_42) (C := RX9) (T := TX9) (N := 45) hx hb hts in_X9 hown hK hP 0 rfl rfl 32 (by decide) lk_133 (fun _ h9 => h9) rfl dX9_windLine_51 ?_
            refine lv_aload_n hx hb dX9_windLine_54 rfl (lv_at hl 0 rfl) ?_
            refine va_get (D := D) (ci := 9) (v := .ref a2) (C := RX9) (T := TX9) (N := 45) hx hb hts in_X9 hown hK hP 0 rfl rfl 2 (by decide) lk_17 (fun _ h9 => h9) rfl dX9_windLine_55 ?_
            refine lv_iconst (v := 1) hx hb dX9_windLine_58 (by decide) ?_
            obtain ⟨hi, hf⟩ := gIx_some hf
            refine va_iald hx hb hK hP 3 1 rfl rfl hi dX9_windLine_59 ?_
            refine lv_icmp_ge (tgt := 81) hx hb dX9_windLine_60 (by decide) (fun hc => ?_) (fun hc => ?_)
            · have hf := o_t hc hf
              refine lv_aload_n hx hb dX9_windLine_81 rfl (lv_at hl 0 rfl) ?_
              refine lv_iconst (v := 0) hx hb dX9_windLine_82 (by decide) ?_
              refine lv_aload_n hx hb dX9_windLine_83 rfl (lv_at hl 0 rfl) ?_
              refine va_get (D := D) (ci := 9) (v := .ref a2) (C := RX9) (T := TX9) (N := 45) hx hb hts in_X9 hown hK hP 0 rfl rfl 2 (by decide) lk_17 (fun _ h9 => h9) rfl dX9_windLine_84 ?_
              refine lv_iconst (v := 1) hx hb dX9_windLine_87 (by decide) ?_
              obtain ⟨hi, hf⟩ := gIx_some hf
              refine va_iald hx hb hK hP 3 1 rfl rfl hi dX9_windLine_88 ?_
              refine lv_iconst (v := 1) hx hb dX9_windLine_89 (by decide) ?_
              refine lv_isub hx hb dX9_windLine_90 ?_
              obtain ⟨r_9, start_10, next__11, token_12, value_13, error_14, errorAt_15, number_16, hc, hf⟩ := ob8_some hf
              refine g_VZ (As := [.int 0, .int ((regions (1 : Int32).toNatClampNeg) - 1)]) (rest := []) (ws' := (w_X9_windLine kc a0 a1 a2 a3 a4 a5 a6 a7 a8 a9 a10 a11 a12 a13 a14 a15 a16 a17 a18 a19 a20 a21 a22 a23 a24 a25 a26 a27 a28 thrown loftSize startWind seed draftLoft draftStart draftSeed length textSize start_10 next__11 token_12 value_13 error_14 errorAt_15 number_16 undos winds text regions namedRegion_42 namedWeight_42 named)) ⟨hx, hb, hml, hown, hts⟩ hN hK hP hD hS hA (c_X9_takes l D kc N a0 a1 a2 a3 a4 a5 a6 a7 a8 a9 a10 a11 a12 a13 a14 a15 a16 a17 a18 a19 a20 a21 a22 a23 a24 a25 a26 a27 a28 thrown loftSize startWind seed draftLoft draftStart draftSeed length textSize start_42 next__42 token_42 value_42 error_42 errorAt_42 number_42 undos text 0 ((regions (1 : Int32).toNatClampNeg) - 1) r_9 start_10 next__11 token_12 value_13 error_14 errorAt_15 number_16 hc) (cwV 2 hts gX9_windLine_X9_takes rfl rfl rfl (by decide +kernel) ⟨Nat.le_of_ble_eq_true rfl, Nat.le_of_ble_eq_true rfl⟩) [0, 2] [1, 3, 4, 5, 6] [5, 0, 6, 1, 2, 3, 4] (by exact ⟨rfl, rfl, by decide, rfl⟩) 0 9 rfl rfl rfl rfl hl.1 rfl (Nat.le_of_ble_eq_true rfl) dX9_windLine_91 ⟨Nat.le_refl _, Nat.le_refl _⟩ (fun H locs hz hP hD hS => ?_)
              have hz_17 := hz
              refine lv_if_ne (tgt := 99) hx hb dX9_windLine_94 (by decide) (fun hc => ?_) (fun hc => ?_)
              · have hf := o_f hc hf
                refine lv_iload hx hb dX9_windLine_99 (lv_at hl 4 rfl) ?_
                refine lv_iconst (v := 1) hx hb dX9_windLine_101 (by decide) ?_
                refine lv_aload_n hx hb dX9_windLine_102 rfl (lv_at hl 0 rfl) ?_
                refine va_get (D := D) (ci := 9) (v := .int number_16) (C := RX9) (T := TX9) (N := 45) hx hb hts in_X9 hown hK hP 0 rfl rfl 35 (by decide) lk_159 (fun _ h9 => h9) rfl dX9_windLine_103 ?_
                refine lv_ishl hx hb dX9_windLine_106 ?_
                refine lv_ior hx hb dX9_windLine_107 ?_
                refine lv_istore (lv' := [(4, .int (y4_42 ||| ((1 : Int32) <<< ((number_16 : Int32) &&& 31)))), (0, .ref a0), (1, .int y1_27), (2, .int y2_42), (3, .int y3_42)]) hx hb dX9_windLine_108 hl (by decide) rfl (fun ls hl => ?_)
                refine lv_aload_n hx hb dX9_windLine_110 rfl (lv_at hl 1 rfl) ?_
                refine va_get (D := D) (ci := 9) (v := .ref a8) (C := RX9) (T := TX9) (N := 45) hx hb hts in_X9 hown hK hP 0 rfl rfl 8 (by decide) lk_35 (fun _ h9 => h9) rfl dX9_windLine_111 ?_
                refine lv_bipush (v := 8) hx hb dX9_windLine_114 (by decide) ?_
                refine lv_iload_n hx hb dX9_windLine_116 rfl (lv_at hl 2 rfl) ?_
                refine lv_imul hx hb dX9_windLine_117 ?_
                refine lv_iload_n hx hb dX9_windLine_118 rfl (lv_at hl 3 rfl) ?_
                refine lv_iadd hx hb dX9_windLine_119 ?_
                refine lv_aload_n hx hb dX9_windLine_120 rfl (lv_at hl 1 rfl) ?_
                refine va_get (D := D) (ci := 9) (v := .int number_16) (C := RX9) (T := TX9) (N := 45) hx hb hts in_X9 hown hK hP 0 rfl rfl 35 (by decide) lk_159 (fun _ h9 => h9) rfl dX9_windLine_121 ?_
                obtain ⟨hi, hf⟩ := gIx_some hf
                refine va_iast hx hb hK hP hD hS 4 1 rfl rfl hi dX9_windLine_124 (fun H locs hP hD hS => ?_)
                have hP : va_P D vwCl (w_X9_windLine kc a0 a1 a2 a3 a4 a5 a6 a7 a8 a9 a10 a11 a12 a13 a14 a15 a16 a17 a18 a19 a20 a21 a22 a23 a24 a25 a26 a27 a28 thrown loftSize startWind seed draftLoft draftStart draftSeed length textSize start_10 next__11 token_12 value_13 error_14 errorAt_15 number_16 undos winds text regions (upd namedRegion_42 (((8 * y1_27) + y2_42) : Int32).toNatClampNeg number_16) namedWeight_42 named) H := hP
                have hD : va_D A (w_X9_windLine kc a0 a1 a2 a3 a4 a5 a6 a7 a8 a9 a10 a11 a12 a13 a14 a15 a16 a17 a18 a19 a20 a21 a22 a23 a24 a25 a26 a27 a28 thrown loftSize startWind seed draftLoft draftStart draftSeed length textSize start_10 next__11 token_12 value_13 error_14 errorAt_15 number_16 undos winds text regions (upd namedRegion_42 (((8 * y1_27) + y2_42) : Int32).toNatClampNeg number_16) namedWeight_42 named) := hD
                refine lv_aload_n hx hb dX9_windLine_125 rfl (lv_at hl 1 rfl) ?_
                refine lv_iconst (v := 1) hx hb dX9_windLine_126 (by decide) ?_
                refine lv_bipush (v := 10) hx hb dX9_windLine_127 (by decide) ?_
                refine lv_iload_n hx hb dX9_windLine_129 rfl (lv_at hl 4 rfl) ?_
                refine lv_isub hx hb dX9_windLine_130 ?_
                obtain ⟨r_18, start_19, next__20, token_21, value_22, error_23, errorAt_24, number_25, hc, hf⟩ := ob8_some hf
                refine g_VZ (As := [.int 1, .int (10 - y3_42)]) (rest := []) (ws' := (w_X9_windLine kc a0 a1 a2 a3 a4 a5 a6 a7 a8 a9 a10 a11 a12 a13 a14 a15 a16 a17 a18 a19 a20 a21 a22 a23 a24 a25 a26 a27 a28 thrown loftSize startWind seed draftLoft draftStart draftSeed length textSize start_19 next__20 token_21 value_22 error_23 errorAt_24 number_25 undos winds text regions (upd namedRegion_42 (((8 * y1_27) + y2_42) : Int32).toNatClampNeg number_16) namedWeight_42 named)) ⟨hx, hb, hml, hown, hts⟩ hN hK hP hD hS hA (c_X9_takes l D kc N a0 a1 a2 a3 a4 a5 a6 a7 a8 a9 a10 a11 a12 a13 a14 a15 a16 a17 a18 a19 a20 a21 a22 a23 a24 a25 a26 a27 a28 thrown loftSize startWind seed draftLoft draftStart draftSeed length textSize start_10 next__11 token_12 value_13 error_14 errorAt_15 number_16 undos text 1 (10 - y3_42) r_18 start_19 next__20 token_21 value_22 error_23 errorAt_24 number_25 hc) (cwV 2 hts gX9_windLine_X9_takes rfl rfl rfl (by decide +kernel) ⟨Nat.le_of_ble_eq_true rfl, Nat.le_of_ble_eq_true rfl⟩) [0, 2] [1, 3, 4, 5, 6] [5, 0, 6, 1, 2, 3, 4] (by exact ⟨rfl, rfl, by decide, rfl⟩) 0 9 rfl rfl rfl rfl hl.1 rfl (Nat.le_of_ble_eq_true rfl) dX9_windLine_131 ⟨Nat.le_refl _, Nat.le_refl _⟩ (fun H locs hz hP hD hS => ?_)
                have hz_26 := hz
                refine lv_if_ne (tgt := 139) hx hb dX9_windLine_134 (by decide) (fun hc => ?_) (fun hc => ?_)
                · have hf := o_f hc hf
                  refine lv_aload_n hx hb dX9_windLine_139 rfl (lv_at hl 1 rfl) ?_
                  refine va_get (D := D) (ci := 9) (v := .ref a9) (C := RX9) (T := TX9) (N := 45) hx hb hts in_X9 hown hK hP 0 rfl rfl 9 (by decide) lk_38 (fun _ h9 => h9) rfl dX9_windLine_140 ?_
                  refine lv_bipush (v := 8) hx hb dX9_windLine_143 (by decide) ?_
                  refine lv_iload_n hx hb dX9_windLine_145 rfl (lv_at hl 2 rfl) ?_
                  refine lv_imul hx hb dX9_windLine_146 ?_
                  refine lv_iload_n hx hb dX9_windLine_147 rfl (lv_at hl 3 rfl) ?_
                  refine lv_iadd hx hb dX9_windLine_148 ?_
                  refine lv_aload_n hx hb dX9_windLine_149 rfl (lv_at hl 1 rfl) ?_
                  refine va_get (D := D) (ci := 9) (v := .int number_25) (C := RX9) (T := TX9) (N := 45) hx hb hts in_X9 hown hK hP 0 rfl rfl 35 (by decide) lk_159 (fun _ h9 => h9) rfl dX9_windLine_150 ?_
                  obtain ⟨hi, hf⟩ := gIx_some hf
                  refine va_iast hx hb hK hP hD hS 5 1 rfl rfl hi dX9_windLine_153 (fun H locs hP hD hS => ?_)
                  have hP : va_P D vwCl (w_X9_windLine kc a0 a1 a2 a3 a4 a5 a6 a7 a8 a9 a10 a11 a12 a13 a14 a15 a16 a17 a18 a19 a20 a21 a22 a23 a24 a25 a26 a27 a28 thrown loftSize startWind seed draftLoft draftStart draftSeed length textSize start_19 next__20 token_21 value_22 error_23 errorAt_24 number_25 undos winds text regions (upd namedRegion_42 (((8 * y1_27) + y2_42) : Int32).toNatClampNeg number_16) (upd namedWeight_42 (((8 * y1_27) + y2_42) : Int32).toNatClampNeg number_25) named) H := hP
                  have hD : va_D A (w_X9_windLine kc a0 a1 a2 a3 a4 a5 a6 a7 a8 a9 a10 a11 a12 a13 a14 a15 a16 a17 a18 a19 a20 a21 a22 a23 a24 a25 a26 a27 a28 thrown loftSize startWind seed draftLoft draftStart draftSeed length textSize start_19 next__20 token_21 value_22 error_23 errorAt_24 number_25 undos winds text regions (upd namedRegion_42 (((8 * y1_27) + y2_42) : Int32).toNatClampNeg number_16) (upd namedWeight_42 (((8 * y1_27) + y2_42) : Int32).toNatClampNeg number_25) named) := hD
                  refine lv_iload_n hx hb dX9_windLine_154 rfl (lv_at hl 4 rfl) ?_
                  refine lv_aload_n hx hb dX9_windLine_155 rfl (lv_at hl 1 rfl) ?_
                  refine va_get (D := D) (ci := 9) (v := .int number_25) (C := RX9) (T := TX9) (N := 45) hx hb hts in_X9 hown hK hP 0 rfl rfl 35 (by decide) lk_159 (fun _ h9 => h9) rfl dX9_windLine_156 ?_
                  refine lv_iadd hx hb dX9_windLine_159 ?_
                  refine lv_istore_n (lv' := [(3, .int (y3_42 + number_25)), (4, .int (y4_42 ||| ((1 : Int32) <<< ((number_16 : Int32) &&& 31)))), (0, .ref a0), (1, .int y1_27), (2, .int y2_42)]) hx hb dX9_windLine_160 rfl hl (by decide) rfl (fun ls hl => ?_)
                  refine lv_iinc (v := (y2_42 + 1)) (lv' := [(2, .int (y2_42 + 1)), (3, .int (y3_42 + number_25)), (4, .int (y4_42 ||| ((1 : Int32) <<< ((number_16 : Int32) &&& 31)))), (0, .ref a0), (1, .int y1_27)]) hx hb dX9_windLine_161 hl (k := 4) rfl (by rfl) (by decide) rfl (fun ls hl => ?_)
                  refine lv_goto (tgt := 42) hx hb dX9_windLine_164 (by decide) ?_
                  exact ih _ _ _ _ _ _ _ _ _ _ _ _ hf _ _ _ hP hD hS (lv_sub hl [3, 4, 0, 1, 2] rfl)
                · have hf := o_t hc hf
                  refine lv_iconst (v := 0) hx hb dX9_windLine_137 (by decide) ?_
                  cases hf
                  exact kR _ _ _ _ (Or.inl rfl) hP hD hS dX9_windLine_138
              · have hf := o_t hc hf
                refine lv_iconst (v := 0) hx hb dX9_windLine_97 (by decide) ?_
                cases hf
                exact kR _ _ _ _ (Or.inl rfl) hP hD hS dX9_windLine_98
            · have hf := o_f hc hf
              refine lv_iload hx hb dX9_windLine_63 (lv_at hl 4 rfl) ?_
              refine lv_aload_n hx hb dX9_windLine_65 rfl (lv_at hl 0 rfl) ?_
              refine va_get (D := D) (ci := 9) (v := .int value_42) (C := RX9) (T := TX9) (N := 45) hx hb hts in_X9 hown hK hP 0 rfl rfl 32 (by decide) lk_133 (fun _ h9 => h9) rfl dX9_windLine_66 ?_
              obtain ⟨r_27, hc, hf⟩ := ob1_some hf
              refine g_SZ (As := [.int y4_42, .int value_42]) (rest := []) (ws' := (w_X9_windLine kc a0 a1 a2 a3 a4 a5 a6 a7 a8 a9 a10 a11 a12 a13 a14 a15 a16 a17 a18 a19 a20 a21 a22 a23 a24 a25 a26 a27 a28 thrown loftSize startWind seed draftLoft draftStart draftSeed length textSize start_42 next__42 token_42 value_42 error_42 errorAt_42 number_42 undos winds text regions namedRegion_42 namedWeight_42 named)) ⟨hx, hb, hml, hown, hts⟩ hN hK hP hD hS hA (c_X9_has l D kc N y4_42 value_42 r_27 hc) (va_cwS 2 hts gX9_windLine_X9_has rfl rfl rfl (by decide +kernel) ⟨Nat.le_of_ble_eq_true rfl, Nat.le_of_ble_eq_true rfl⟩) [] [0, 1, 2, 3, 4, 5, 6] [0, 1, 2, 3, 4, 5, 6] (by exact ⟨rfl, rfl, by decide, rfl⟩) rfl hl.1 rfl (Nat.le_of_ble_eq_true rfl) dX9_windLine_69 ⟨Nat.le_refl _, Nat.le_refl _⟩ (fun H locs hz hP hD hS => ?_)
              have hz_28 := hz
              refine lv_if_eq (tgt := 81) hx hb dX9_windLine_72 (by decide) (fun hc => ?_) (fun hc => ?_)
              · have hf := o_t hc hf
                refine lv_aload_n hx hb dX9_windLine_81 rfl (lv_at hl 0 rfl) ?_
                refine lv_iconst (v := 0) hx hb dX9_windLine_82 (by decide) ?_
                refine lv_aload_n hx hb dX9_windLine_83 rfl (lv_at hl 0 rfl) ?_
                refine va_get (D := D) (ci := 9) (v := .ref a2) (C := RX9) (T := TX9) (N := 45) hx hb hts in_X9 hown hK hP 0 rfl rfl 2 (by decide) lk_17 (fun _ h9 => h9) rfl dX9_windLine_84 ?_
                refine lv_iconst (v := 1) hx hb dX9_windLine_87 (by decide) ?_
                obtain ⟨hi, hf⟩ := gIx_some hf
                refine va_iald hx hb hK hP 3 1 rfl rfl hi dX9_windLine_88 ?_
                refine lv_iconst (v := 1) hx hb dX9_windLine_89 (by decide) ?_
                refine lv_isub hx hb dX9_windLine_90 ?_
                obtain ⟨r_29, start_30, next__31, token_32, value_33, error_34, errorAt_35, number_36, hc, hf⟩ := ob8_some hf
                refine g_VZ (As := [.int 0, .int ((regions (1 : Int32).toNatClampNeg) - 1)]) (rest := []) (ws' := (w_X9_windLine kc a0 a1 a2 a3 a4 a5 a6 a7 a8 a9 a10 a11 a12 a13 a14 a15 a16 a17 a18 a19 a20 a21 a22 a23 a24 a25 a26 a27 a28 thrown loftSize startWind seed draftLoft draftStart draftSeed length textSize start_30 next__31 token_32 value_33 error_34 errorAt_35 number_36 undos winds text regions namedRegion_42 namedWeight_42 named)) ⟨hx, hb, hml, hown, hts⟩ hN hK hP hD hS hA (c_X9_takes l D kc N a0 a1 a2 a3 a4 a5 a6 a7 a8 a9 a10 a11 a12 a13 a14 a15 a16 a17 a18 a19 a20 a21 a22 a23 a24 a25 a26 a27 a28 thrown loftSize startWind seed draftLoft draftStart draftSeed length textSize start_42 next__42 token_42 value_42 error_42 errorAt_42 number_42 undos text 0 ((regions (1 : Int32).toNatClampNeg) - 1) r_29 start_30 next__31 token_32 value_33 error_34 errorAt_35 number_36 hc) (cwV 2 hts gX9_windLine_X9_takes rfl rfl rfl (by decide +kernel) ⟨Nat.le_of_ble_eq_true rfl, Nat.le_of_ble_eq_true rfl⟩) [0, 2] [1, 3, 4, 5, 6] [5, 0, 6, 1, 2, 3, 4] (by exact ⟨rfl, rfl, by decide, rfl⟩) 0 9 rfl rfl rfl rfl hl.1 rfl (Nat.le_of_ble_eq_true rfl) dX9_windLine_91 ⟨Nat.le_refl _, Nat.le_refl _⟩ (fun H locs hz hP hD hS => ?_)
                have hz_37 := hz
                refine lv_if_ne (tgt := 99) hx hb dX9_windLine_94 (by decide) (fun hc => ?_) (fun hc => ?_)
                · have hf := o_f hc hf
                  refine lv_iload hx hb dX9_windLine_99 (lv_at hl 4 rfl) ?_
                  refine lv_iconst (v := 1) hx hb dX9_windLine_101 (by decide) ?_
                  refine lv_aload_n hx hb dX9_windLine_102 rfl (lv_at hl 0 rfl) ?_
                  refine va_get (D := D) (ci := 9) (v := .int number_36) (C := RX9) (T := TX9) (N := 45) hx hb hts in_X9 hown hK hP 0 rfl rfl 35 (by decide) lk_159 (fun _ h9 => h9) rfl dX9_windLine_103 ?_
                  refine lv_ishl hx hb dX9_windLine_106 ?_
                  refine lv_ior hx hb dX9_windLine_107 ?_
                  refine lv_istore (lv' := [(4, .int (y4_42 ||| ((1 : Int32) <<< ((number_36 : Int32) &&& 31)))), (0, .ref a0), (1, .int y1_27), (2, .int y2_42), (3, .int y3_42)]) hx hb dX9_windLine_108 hl (by decide) rfl (fun ls hl => ?_)
                  refine lv_aload_n hx hb dX9_windLine_110 rfl (lv_at hl 1 rfl) ?_
                  refine va_get (D := D) (ci := 9) (v := .ref a8) (C := RX9) (T := TX9) (N := 45) hx hb hts in_X9 hown hK hP 0 rfl rfl 8 (by decide) lk_35 (fun _ h9 => h9) rfl dX9_windLine_111 ?_
                  refine lv_bipush (v := 8) hx hb dX9_windLine_114 (by decide) ?_
                  refine lv_iload_n hx hb dX9_windLine_116 rfl (lv_at hl 2 rfl) ?_
                  refine lv_imul hx hb dX9_windLine_117 ?_
                  refine lv_iload_n hx hb dX9_windLine_118 rfl (lv_at hl 3 rfl) ?_
                  refine lv_iadd hx hb dX9_windLine_119 ?_
                  refine lv_aload_n hx hb dX9_windLine_120 rfl (lv_at hl 1 rfl) ?_
                  refine va_get (D := D) (ci := 9) (v := .int number_36) (C := RX9) (T := TX9) (N := 45) hx hb hts in_X9 hown hK hP 0 rfl rfl 35 (by decide) lk_159 (fun _ h9 => h9) rfl dX9_windLine_121 ?_
                  obtain ⟨hi, hf⟩ := gIx_some hf
                  refine va_iast hx hb hK hP hD hS 4 1 rfl rfl hi dX9_windLine_124 (fun H locs hP hD hS => ?_)
                  have hP : va_P D vwCl (w_X9_windLine kc a0 a1 a2 a3 a4 a5 a6 a7 a8 a9 a10 a11 a12 a13 a14 a15 a16 a17 a18 a19 a20 a21 a22 a23 a24 a25 a26 a27 a28 thrown loftSize startWind seed draftLoft draftStart draftSeed length textSize start_30 next__31 token_32 value_33 error_34 errorAt_35 number_36 undos winds text regions (upd namedRegion_42 (((8 * y1_27) + y2_42) : Int32).toNatClampNeg number_36) namedWeight_42 named) H := hP
                  have hD : va_D A (w_X9_windLine kc a0 a1 a2 a3 a4 a5 a6 a7 a8 a9 a10 a11 a12 a13 a14 a15 a16 a17 a18 a19 a20 a21 a22 a23 a24 a25 a26 a27 a28 thrown loftSize startWind seed draftLoft draftStart draftSeed length textSize start_30 next__31 token_32 value_33 error_34 errorAt_35 number_36 undos winds text regions (upd namedRegion_42 (((8 * y1_27) + y2_42) : Int32).toNatClampNeg number_36) namedWeight_42 named) := hD
                  refine lv_aload_n hx hb dX9_windLine_125 rfl (lv_at hl 1 rfl) ?_
                  refine lv_iconst (v := 1) hx hb dX9_windLine_126 (by decide) ?_
                  refine lv_bipush (v := 10) hx hb dX9_windLine_127 (by decide) ?_
                  refine lv_iload_n hx hb dX9_windLine_129 rfl (lv_at hl 4 rfl) ?_
                  refine lv_isub hx hb dX9_windLine_130 ?_
                  obtain ⟨r_38, start_39, next__40, token_41, value_42, error_43, errorAt_44, number_45, hc, hf⟩ := ob8_some hf
                  refine g_VZ (As := [.int 1, .int (10 - y3_42)]) (rest := []) (ws' := (w_X9_windLine kc a0 a1 a2 a3 a4 a5 a6 a7 a8 a9 a10 a11 a12 a13 a14 a15 a16 a17 a18 a19 a20 a21 a22 a23 a24 a25 a26 a27 a28 thrown loftSize startWind seed draftLoft draftStart draftSeed length textSize start_39 next__40 token_41 value_42 error_43 errorAt_44 number_45 undos winds text regions (upd namedRegion_42 (((8 * y1_27) + y2_42) : Int32).toNatClampNeg number_36) namedWeight_42 named)) ⟨hx, hb, hml, hown, hts⟩ hN hK hP hD hS hA (c_X9_takes l D kc N a0 a1 a2 a3 a4 a5 a6 a7 a8 a9 a10 a11 a12 a13 a14 a15 a16 a17 a18 a19 a20 a21 a22 a23 a24 a25 a26 a27 a28 thrown loftSize startWind seed draftLoft draftStart draftSeed length textSize start_30 next__31 token_32 value_33 error_34 errorAt_35 number_36 undos text 1 (10 - y3_42) r_38 start_39 next__40 token_41 value_42 error_43 errorAt_44 number_45 hc) (cwV 2 hts gX9_windLine_X9_takes rfl rfl rfl (by decide +kernel) ⟨Nat.le_of_ble_eq_true rfl, Nat.le_of_ble_eq_true rfl⟩) [0, 2] [1, 3, 4, 5, 6] [5, 0, 6, 1, 2, 3, 4] (by exact ⟨rfl, rfl, by decide, rfl⟩) 0 9 rfl rfl rfl rfl hl.1 rfl (Nat.le_of_ble_eq_true rfl) dX9_windLine_131 ⟨Nat.le_refl _, Nat.le_refl _⟩ (fun H locs hz hP hD hS => ?_)
                  have hz_46 := hz
                  refine lv_if_ne (tgt := 139) hx hb dX9_windLine_134 (by decide) (fun hc => ?_) (fun hc => ?_)
                  · have hf := o_f hc hf
                    refine lv_aload_n hx hb dX9_windLine_139 rfl (lv_at hl 1 rfl) ?_
                    refine va_get (D := D) (ci := 9) (v := .ref a9) (C := RX9) (T := TX9) (N := 45) hx hb hts in_X9 hown hK hP 0 rfl rfl 9 (by decide) lk_38 (fun _ h9 => h9) rfl dX9_windLine_140 ?_
                    refine lv_bipush (v := 8) hx hb dX9_windLine_143 (by decide) ?_
                    refine lv_iload_n hx hb dX9_windLine_145 rfl (lv_at hl 2 rfl) ?_
                    refine lv_imul hx hb dX9_windLine_146 ?_
                    refine lv_iload_n hx hb dX9_windLine_147 rfl (lv_at hl 3 rfl) ?_
                    refine lv_iadd hx hb dX9_windLine_148 ?_
                    refine lv_aload_n hx hb dX9_windLine_149 rfl (lv_at hl 1 rfl) ?_
                    refine va_get (D := D) (ci := 9) (v := .int number_45) (C := RX9) (T := TX9) (N := 45) hx hb hts in_X9 hown hK hP 0 rfl rfl 35 (by decide) lk_159 (fun _ h9 => h9) rfl dX9_windLine_150 ?_
                    obtain ⟨hi, hf⟩ := gIx_some hf
                    refine va_iast hx hb hK hP hD hS 5 1 rfl rfl hi dX9_windLine_153 (fun H locs hP hD hS => ?_)
                    have hP : va_P D vwCl (w_X9_windLine kc a0 a1 a2 a3 a4 a5 a6 a7 a8 a9 a10 a11 a12 a13 a14 a15 a16 a17 a18 a19 a20 a21 a22 a23 a24 a25 a26 a27 a28 thrown loftSize startWind seed draftLoft draftStart draftSeed length textSize start_39 next__40 token_41 value_42 error_43 errorAt_44 number_45 undos winds text regions (upd namedRegion_42 (((8 * y1_27) + y2_42) : Int32).toNatClampNeg number_36) (upd namedWeight_42 (((8 * y1_27) + y2_42) : Int32).toNatClampNeg number_45) named) H := hP
                    have hD : va_D A (w_X9_windLine kc a0 a1 a2 a3 a4 a5 a6 a7 a8 a9 a10 a11 a12 a13 a14 a15 a16 a17 a18 a19 a20 a21 a22 a23 a24 a25 a26 a27 a28 thrown loftSize startWind seed draftLoft draftStart draftSeed length textSize start_39 next__40 token_41 value_42 error_43 errorAt_44 number_45 undos winds text regions (upd namedRegion_42 (((8 * y1_27) + y2_42) : Int32).toNatClampNeg number_36) (upd namedWeight_42 (((8 * y1_27) + y2_42) : Int32).toNatClampNeg number_45) named) := hD
                    refine lv_iload_n hx hb dX9_windLine_154 rfl (lv_at hl 4 rfl) ?_
                    refine lv_aload_n hx hb dX9_windLine_155 rfl (lv_at hl 1 rfl) ?_
                    refine va_get (D := D) (ci := 9) (v := .int number_45) (C := RX9) (T := TX9) (N := 45) hx hb hts in_X9 hown hK hP 0 rfl rfl 35 (by decide) lk_159 (fun _ h9 => h9) rfl dX9_windLine_156 ?_
                    refine lv_iadd hx hb dX9_windLine_159 ?_
                    refine lv_istore_n (lv' := [(3, .int (y3_42 + number_45)), (4, .int (y4_42 ||| ((1 : Int32) <<< ((number_36 : Int32) &&& 31)))), (0, .ref a0), (1, .int y1_27), (2, .int y2_42)]) hx hb dX9_windLine_160 rfl hl (by decide) rfl (fun ls hl => ?_)
                    refine lv_iinc (v := (y2_42 + 1)) (lv' := [(2, .int (y2_42 + 1)), (3, .int (y3_42 + number_45)), (4, .int (y4_42 ||| ((1 : Int32) <<< ((number_36 : Int32) &&& 31)))), (0, .ref a0), (1, .int y1_27)]) hx hb dX9_windLine_161 hl (k := 4) rfl (by rfl) (by decide) rfl (fun ls hl => ?_)
                    refine lv_goto (tgt := 42) hx hb dX9_windLine_164 (by decide) ?_
                    exact ih _ _ _ _ _ _ _ _ _ _ _ _ hf _ _ _ hP hD hS (lv_sub hl [3, 4, 0, 1, 2] rfl)
                  · have hf := o_t hc hf
                    refine lv_iconst (v := 0) hx hb dX9_windLine_137 (by decide) ?_
                    cases hf
                    exact kR _ _ _ _ (Or.inl rfl) hP hD hS dX9_windLine_138
                · have hf := o_t hc hf
                  refine lv_iconst (v := 0) hx hb dX9_windLine_97 (by decide) ?_
                  cases hf
                  exact kR _ _ _ _ (Or.inl rfl) hP hD hS dX9_windLine_98
              · have hf := o_f hc hf
                refine lv_aload_n hx hb dX9_windLine_75 rfl (lv_at hl 0 rfl) ?_
                refine lv_iconst (v := 2) hx hb dX9_windLine_76 (by decide) ?_
                obtain ⟨r_47, error_48, errorAt_49, hc, hf⟩ := ob3_some hf
                refine g_VZ (As := [.int 2]) (rest := []) (ws' := (w_X9_windLine kc a0 a1 a2 a3 a4 a5 a6 a7 a8 a9 a10 a11 a12 a13 a14 a15 a16 a17 a18 a19 a20 a21 a22 a23 a24 a25 a26 a27 a28 thrown loftSize startWind seed draftLoft draftStart draftSeed length textSize start_42 next__42 token_42 value_42 error_48 errorAt_49 number_42 undos winds text regions namedRegion_42 namedWeight_42 named)) ⟨hx, hb, hml, hown, hts⟩ hN hK hP hD hS hA (c_X9_fails l D kc N a0 a1 a2 a3 a4 a5 a6 a7 a8 a9 a10 a11 a12 a13 a14 a15 a16 a17 a18 a19 a20 a21 a22 a23 a24 a25 a26 a27 a28 thrown loftSize startWind seed draftLoft draftStart draftSeed length textSize start_42 next__42 token_42 value_42 error_42 errorAt_42 number_42 undos 2 r_47 error_48 errorAt_49 hc) (cwV 1 hts gX9_windLine_X9_fails rfl rfl rfl (by decide +kernel) ⟨Nat.le_of_ble_eq_true rfl, Nat.le_of_ble_eq_true rfl⟩) [0] [1, 2, 3, 4, 5, 6] [6, 0, 1, 2, 3, 4, 5] (by exact ⟨rfl, rfl, by decide, rfl⟩) 0 9 rfl rfl rfl rfl hl.1 rfl (Nat.le_of_ble_eq_true rfl) dX9_windLine_77 ⟨Nat.le_refl _, Nat.le_refl _⟩ (fun H locs hz hP hD hS => ?_)
                have hz_50 := hz
                cases hf
                exact kR _ _ _ _ hz_50 hP hD hS dX9_windLine_80
      exact L42 N _ _ _ _ _ _ _ _ _ _ _ _ hf _ _ _ hP hD hS (lv_sub hl [3, 4, 2, 1, 0] rfl)
    · have hf := o_t hc hf
      refine lv_iconst (v := 0) hx hb dX9_windLine_33 (by decide) ?_
      cases hf
      exact kR _ _ _ _ (Or.inl rfl) hP hD hS dX9_windLine_34
  unfold f_X9_windLine at hf
  refine lv_bipush (v := 6) hx hb dX9_windLine_0 (by decide) ?_
  refine lv_aload_n hx hb dX9_windLine_2 rfl (lv_at hl 0 rfl) ?_
  refine va_get (D := D) (ci := 9) (v := .ref a6) (C := RX9) (T := TX9) (N := 45) hx hb hts in_X9 hown hK hP 0 rfl rfl 6 (by decide) lk_29 (fun _ h9 => h9) rfl dX9_windLine_3 ?_
  refine lv_iconst (v := 1) hx hb dX9_windLine_6 (by decide) ?_
  obtain ⟨hi, hf⟩ := gIx_some hf
  refine va_iald hx hb hK hP 1 1 rfl rfl hi dX9_windLine_7 ?_
  refine lv_iadd hx hb dX9_windLine_8 ?_
  refine lv_istore_n (lv' := [(1, .int (6 + (winds (1 : Int32).toNatClampNeg))), (0, .ref a0)]) hx hb dX9_windLine_9 rfl hl (by decide) rfl (fun ls hl => ?_)
  refine lv_aload_n hx hb dX9_windLine_10 rfl (lv_at hl 1 rfl) ?_
  refine lv_aload_n hx hb dX9_windLine_11 rfl (lv_at hl 1 rfl) ?_
  refine va_get (D := D) (ci := 9) (v := .ref a6) (C := RX9) (T := TX9) (N := 45) hx hb hts in_X9 hown hK hP 0 rfl rfl 6 (by decide) lk_29 (fun _ h9 => h9) rfl dX9_windLine_12 ?_
  refine lv_iconst (v := 1) hx hb dX9_windLine_15 (by decide) ?_
  obtain ⟨hi, hf⟩ := gIx_some hf
  refine va_iald hx hb hK hP 1 1 rfl rfl hi dX9_windLine_16 ?_
  refine lv_bipush (v := 6) hx hb dX9_windLine_17 (by decide) ?_
  refine lv_icmp_ge (tgt := 26) hx hb dX9_windLine_19 (by decide) (fun hc => ?_) (fun hc => ?_)
  · have hf := o_t hc hf
    refine lv_iconst (v := 0) hx hb dX9_windLine_26 (by decide) ?_
    exact J27 _ _ hf _ _ _ hP hD hS (lv_sub hl [1, 0] rfl)
  · have hf := o_f hc hf
    refine lv_iconst (v := 1) hx hb dX9_windLine_22 (by decide) ?_
    refine lv_goto (tgt := 27) hx hb dX9_windLine_23 (by decide) ?_
    exact J27 _ _ hf _ _ _ hP hD hS (lv_sub hl [1, 0] rfl)
abbrev w_X9_turnLine (kc : Nat → ClassId) (a0 a1 a2 a3 a4 a5 a6 a7 a8 a9 a10 a11 a12 a13 a14 a15 a16 a17 a18 a19 a20 a21 a22 a23 a24 a25 a26 a27 a28 : Nat) (thrown : Int32) (loftSize : Int32) (startWind : Int32) (seed : Int32) (draftLoft : Int32) (draftStart : Int32) (draftSeed : Int32) (length : Int32) (textSize : Int32) (start : Int32) (next_ : Int32) (token : Int32) (value : Int32) (error : Int32) (errorAt : Int32) (number : Int32) (undos : Int32) (turns : Nat → Int32) (text : Nat → Int32) (winds : Nat → Int32) (turnFrom : Nat → Int32) (turnTo : Nat → Int32) (turnWeight : Nat → Int32) : va_W := [(a0, .inr (9, [.int thrown, .ref a1, .ref a2, .ref a3, .ref a4, .ref a5, .ref a6, .ref a7, .ref a8, .ref a9, .ref a10, .ref a11, .ref a12, .ref a13, .ref a14, .ref a15, .ref a16, .ref a17, .ref a18, .ref a19, .int loftSize, .int startWind, .int seed, .int draftLoft, .int draftStart, .int draftSeed, .ref a20, .int length, .int textSize, .int start, .int next_, .int token, .int value, .int error, .int errorAt, .int number, .ref a21, .ref a22, .ref a23, .ref a24, .ref a25, .int undos, .ref a26, .ref a27, .ref a28])), (a10, .inl (kc 1, 2, .inl turns)), (a20, .inl (kc 0, 900, .inl text)), (a6, .inl (kc 1, 2, .inl winds)), (a11, .inl (kc 1, 60, .inl turnFrom)), (a12, .inl (kc 1, 60, .inl turnTo)), (a13, .inl (kc 1, 60, .inl turnWeight))]
set_option maxHeartbeats 4000000 in
set_option maxRecDepth 100000 in
theorem c_X9_turnLine (l : Launch) (D : va_G) (kc : Nat → ClassId) (N : Nat) (a0 a1 a2 a3 a4 a5 a6 a7 a8 a9 a10 a11 a12 a13 a14 a15 a16 a17 a18 a19 a20 a21 a22 a23 a24 a25 a26 a27 a28 : Nat) (thrown : Int32) (loftSize : Int32) (startWind : Int32) (seed : Int32) (draftLoft : Int32) (draftStart : Int32) (draftSeed : Int32) (length : Int32) (textSize : Int32) (start : Int32) (next_ : Int32) (token : Int32) (value : Int32) (error : Int32) (errorAt : Int32) (number : Int32) (undos : Int32) (turns : Nat → Int32) (text : Nat → Int32) (winds : Nat → Int32) (turnFrom : Nat → Int32) (turnTo : Nat → Int32) (turnWeight : Nat → Int32) (r_ : Int32) (start' : Int32) (next_' : Int32) (token' : Int32) (value' : Int32) (error' : Int32) (errorAt' : Int32) (number' : Int32) (turns' : Nat → Int32) (turnFrom' : Nat → Int32) (turnTo' : Nat → Int32) (turnWeight' : Nat → Int32) (hf : f_X9_turnLine N textSize start next_ token value error errorAt number turns text winds turnFrom turnTo turnWeight = some (r_, start', next_', token', value', error', errorAt', number', turns', turnFrom', turnTo', turnWeight')) : MZ l yX9_turnLine wsX9_turnLine ({ frames := 3, cells := 0, slots := 0, locals := 65 }) D kc [.ref a0] (w_X9_turnLine kc a0 a1 a2 a3 a4 a5 a6 a7 a8 a9 a10 a11 a12 a13 a14 a15 a16 a17 a18 a19 a20 a21 a22 a23 a24 a25 a26 a27 a28 thrown loftSize startWind seed draftLoft draftStart draftSeed length textSize start next_ token value error errorAt number undos turns text winds turnFrom turnTo turnWeight) (w_X9_turnLine kc a0 a1 a2 a3 a4 a5 a6 a7 a8 a9 a10 a11 a12 a13 a14 a15 a16 a17 a18 a19 a20 a21 a22 a23 a24 a25 a26 a27 a28 thrown loftSize startWind seed draftLoft draftStart draftSeed length textSize start' next_' token' value' error' errorAt' number' undos turns' text winds turnFrom' turnTo' turnWeight') r_ := by
  refine gM_Z (cc := cX9_turnLine) (maxL := 6) (by decide) rfl (Nat.le_of_ble_eq_true rfl) ?_
  intro p e s m below meth c A ls Q hx hb hml hown hts hN hK hP hD hA hl kR
  have hS : va_S A s.heap s.heap [] := va_S.rf
  have hl : lv_has ls 6 [(0, .ref a0)] := hl
  have in_X9 : ∀ w ∈ u_ws RX9 TX9 45, w ∈ wsX9_turnLine := by decide +kernel
  have lk_41 := hts (.fieldLink RX9 41 "BalloonMailModel" "turns" "[I") (by decide +kernel)
  have lk_29 := hts (.fieldLink RX9 29 "BalloonMailModel" "winds" "[I") (by decide +kernel)
  have lk_159 := hts (.fieldLink RX9 159 "BalloonMailModel" "number" "I") (by decide +kernel)
  have lk_136 := hts (.fieldLink RX9 136 "BalloonMailModel" "token" "I") (by decide +kernel)
  have lk_44 := hts (.fieldLink RX9 44 "BalloonMailModel" "turnFrom" "[I") (by decide +kernel)
  have lk_50 := hts (.fieldLink RX9 50 "BalloonMailModel" "turnWeight" "[I") (by decide +kernel)
  have lk_47 := hts (.fieldLink RX9 47 "BalloonMailModel" "turnTo" "[I") (by decide +kernel)
  have lk_133 := hts (.fieldLink RX9 133 "BalloonMailModel" "value" "I") (by decide +kernel)
  have J79 : ∀ (y1_79 : Int32) (y2_79 : Int32) (y3_79 : Int32) (start_79 : Int32) (next__79 : Int32) (token_79 : Int32) (value_79 : Int32) (error_79 : Int32) (errorAt_79 : Int32) (number_79 : Int32) (k0_79 : Int32), f_X9_turnLine_j79 N textSize turns text winds turnFrom turnTo turnWeight y1_79 y2_79 y3_79 start_79 next__79 token_79 value_79 error_79 errorAt_79 number_79 k0_79 = some (r_, start', next_', token', value', error', errorAt', number', turns', turnFrom', turnTo', turnWeight') → ∀ (H : Heap) (locs : List Loc) (ls : Array Slot), va_P D vwCl (w_X9_turnLine kc a0 a1 a2 a3 a4 a5 a6 a7 a8 a9 a10 a11 a12 a13 a14 a15 a16 a17 a18 a19 a20 a21 a22 a23 a24 a25 a26 a27 a28 thrown loftSize startWind seed draftLoft draftStart draftSeed length textSize start_79 next__79 token_79 value_79 error_79 errorAt_79 number_79 undos turns text winds turnFrom turnTo turnWeight) H → va_D A (w_X9_turnLine kc a0 a1 a2 a3 a4 a5 a6 a7 a8 a9 a10 a11 a12 a13 a14 a15 a16 a17 a18 a19 a20 a21 a22 a23 a24 a25 a26 a27 a28 thrown loftSize startWind seed draftLoft draftStart draftSeed length textSize start_79 next__79 token_79 value_79 error_79 errorAt_79 number_79 undos turns text winds turnFrom turnTo turnWeight) → va_S A s.heap H locs → lv_has ls 6 [(0, .ref a0), (1, .int y1_79), (2, .int y2_79), (3, .int y3_79)] → W p l e ({ frames := 3, cells := 0, slots := 0, locals := 65 }) s m (([.ref a0] : List Value).toArray) below meth c H locs 0 0 Q (F0 m 79 ls [.int k0_79]) := by
    clear hf
    intro y1_79 y2_79 y3_79 start_79 next__79 token_79 value_79 error_79 errorAt_79 number_79 k0_79 hf H locs ls hP hD hS hl
    unfold f_X9_turnLine_j79 at hf
    refine lv_istore (lv' := [(4, .int k0_79), (0, .ref a0), (1, .int y1_79), (2, .int y2_79), (3, .int y3_79)]) hx hb dX9_turnLine_79 hl (by decide) rfl (fun ls hl => ?_)
    refine lv_bipush (v := 30) hx hb dX9_turnLine_81 (by decide) ?_
    refine lv_istore (lv' := [(5, .int 30), (4, .int k0_79), (0, .ref a0), (1, .int y1_79), (2, .int y2_79), (3, .int y3_79)]) hx hb dX9_turnLine_83 hl (by decide) rfl (fun ls hl => ?_)
    have L85 : ∀ (n : Nat) (y5_85 : Int32) (y4_85 : Int32) (y3_85 : Int32) (y5_85o : Int32) (y4_85o : Int32) (y3_85o : Int32), f_X9_turnLine_85 N turnFrom turnTo turnWeight y1_79 y2_79 token_79 value_79 n y5_85 y4_85 y3_85 = some (y5_85o, y4_85o, y3_85o) → (∀ (H : Heap) (locs : List Loc) (ls : Array Slot), va_P D vwCl (w_X9_turnLine kc a0 a1 a2 a3 a4 a5 a6 a7 a8 a9 a10 a11 a12 a13 a14 a15 a16 a17 a18 a19 a20 a21 a22 a23 a24 a25 a26 a27 a28 thrown loftSize startWind seed draftLoft draftStart draftSeed length textSize start_79 next__79 token_79 value_79 error_79 errorAt_79 number_79 undos turns text winds turnFrom turnTo turnWeight) H → va_D A (w_X9_turnLine kc a0 a1 a2 a3 a4 a5 a6 a7 a8 a9 a10 a11 a12 a13 a14 a15 a16 a17 a18 a19 a20 a21 a22 a23 a24 a25 a26 a27 a28 thrown loftSize startWind seed draftLoft draftStart draftSeed length textSize start_79 next__79 token_79 value_79 error_79 errorAt_79 number_79 undos turns text winds turnFrom turnTo turnWeight) → va_S A s.heap H locs → lv_has ls 6 [(0, .ref a0), (1, .int y1_79), (2, .int y2_79), (3, .int y3_85o), (4, .int y4_85o), (5, .int y5_85o)] → W p l e ({ frames := 3, cells := 0, slots := 0, locals := 65 }) s m (([.ref a0] : List Value).toArray) below meth c H locs 0 0 Q (F0 m 167 ls [])) → ∀ (H : Heap) (locs : List Loc) (ls : Array Slot), va_P D vwCl (w_X9_turnLine kc a0 a1 a2 a3 a4 a5 a6 a7 a8 a9 a10 a11 a12 a13 a14 a15 a16 a17 a18 a19 a20 a21 a22 a23 a24 a25 a26 a27 a28 thrown loftSize startWind seed draftLoft draftStart draftSeed length textSize start_79 next__79 token_79 value_79 error_79 errorAt_79 number_79 undos turns text winds turnFrom turnTo turnWeight) H → va_D A (w_X9_turnLine kc a0 a1 a2 a3 a4 a5 a6 a7 a8 a9 a10 a11 a12 a13 a14 a15 a16 a17 a18 a19 a20 a21 a22 a23 a24 a25 a26 a27 a28 thrown loftSize startWind seed draftLoft draftStart draftSeed length textSize start_79 next__79 token_79 value_79 error_79 errorAt_79 number_79 undos turns text winds turnFrom turnTo turnWeight) → va_S A s.heap H locs → lv_has ls 6 [(0, .ref a0), (1, .int y1_79), (2, .int y2_79), (3, .int y3_85), (4, .int y4_85), (5, .int y5_85)] → W p l e ({ frames := 3, cells := 0, slots := 0, locals := 65 }) s m (([.ref a0] : List Value).toArray) below meth c H locs 0 0 Q (F0 m 85 ls []) := by
      intro n
      induction n with
      | zero => intro _ _ _ _ _ _ hf; rw [f_X9_turnLine_85.eq_1] at hf; cases hf
      | succ n ih =>
        intro y5_85 y4_85 y3_85 y5_85o y4_85o y3_85o hf hk H locs ls hP hD hS hl
        rw [f_X9_turnLine_85.eq_2] at hf
        refine lv_iload hx hb dX9_turnLine_85 (lv_at hl 5 rfl) ?_
        refine lv_iload_n hx hb dX9_turnLine_87 rfl (lv_at hl 1 rfl) ?_
        refine lv_icmp_ge (tgt := 167) hx hb dX9_turnLine_88 (by decide) (fun hc => ?_) (fun hc => ?_)
        · have hf := o_t hc hf
          cases hf
          exact hk _ _ _ hP hD hS (lv_sub hl [0, 1, 2, 3, 4, 5] rfl)
        · have hf := o_f hc hf
          refine lv_iload hx hb dX9_turnLine_91 (lv_at hl 4 rfl) ?_
          refine lv_if_ne (tgt := 129) hx hb dX9_turnLine_93 (by decide) (fun hc => ?_) (fun hc => ?_)
          · have hf := o_f hc hf
            refine lv_iconst (v := 1) hx hb dX9_turnLine_129 (by decide) ?_
            refine lv_goto (tgt := 134) hx hb dX9_turnLine_130 (by decide) ?_
            refine lv_istore (lv' := [(4, .int 1), (0, .ref a0), (1, .int y1_79), (2, .int y2_79), (3, .int y3_85), (5, .int y5_85)]) hx hb dX9_turnLine_134 hl (by decide) rfl (fun ls hl => ?_)
            refine lv_iload_n hx hb dX9_turnLine_136 rfl (lv_at hl 4 rfl) ?_
            refine lv_aload_n hx hb dX9_turnLine_137 rfl (lv_at hl 1 rfl) ?_
            refine va_get (D := D) (ci := 9) (v := .ref a11) (C := RX9) (T := TX9) (N := 45) hx hb hts in_X9 hown hK hP 0 rfl rfl 11 (by decide) lk_44 (fun _ h9 => h9) rfl dX9_turnLine_138 ?_
            refine lv_iload hx hb dX9_turnLine_141 (lv_at hl 5 rfl) ?_
            obtain ⟨hi, hf⟩ := gIx_some hf
            refine va_iald hx hb hK hP 4 1 rfl rfl hi dX9_turnLine_143 ?_
            refine lv_iload_n hx hb dX9_turnLine_144 rfl (lv_at hl 3 rfl) ?_
            refine lv_icmp_ne (tgt := 158) hx hb dX9_turnLine_145 (by decide) (fun hc => ?_) (fun hc => ?_)
            · have hf := o_f hc hf
              refine lv_iconst (v := 0) hx hb dX9_turnLine_158 (by decide) ?_
              refine lv_iadd hx hb dX9_turnLine_159 ?_
              refine lv_istore_n (lv' := [(3, .int (y3_85 + 0)), (4, .int 1), (0, .ref a0), (1, .int y1_79), (2, .int y2_79), (5, .int y5_85)]) hx hb dX9_turnLine_160 rfl hl (by decide) rfl (fun ls hl => ?_)
              refine lv_iinc (v := (y5_85 + 1)) (lv' := [(5, .int (y5_85 + 1)), (3, .int (y3_85 + 0)), (4, .int 1), (0, .ref a0), (1, .int y1_79), (2, .int y2_79)]) hx hb dX9_turnLine_161 hl (k := 5) rfl (by rfl) (by decide) rfl (fun ls hl => ?_)
              refine lv_goto (tgt := 85) hx hb dX9_turnLine_164 (by decide) ?_
              exact ih _ _ _ _ _ _ hf hk _ _ _ hP hD hS (lv_sub hl [3, 4, 5, 1, 2, 0] rfl)
            · have hf := o_t hc hf
              refine lv_aload_n hx hb dX9_turnLine_148 rfl (lv_at hl 1 rfl) ?_
              refine va_get (D := D) (ci := 9) (v := .ref a13) (C := RX9) (T := TX9) (N := 45) hx hb hts in_X9 hown hK hP 0 rfl rfl 13 (by decide) lk_50 (fun _ h9 => h9) rfl dX9_turnLine_149 ?_
              refine lv_iload hx hb dX9_turnLine_152 (lv_at hl 5 rfl) ?_
              obtain ⟨hi, hf⟩ := gIx_some hf
              refine va_iald hx hb hK hP 6 1 rfl rfl hi dX9_turnLine_154 ?_
              refine lv_goto (tgt := 159) hx hb dX9_turnLine_155 (by decide) ?_
              refine lv_iadd hx hb dX9_turnLine_159 ?_
              refine lv_istore_n (lv' := [(3, .int (y3_85 + (turnWeight (y5_85 : Int32).toNatClampNeg))), (4, .int 1), (0, .ref a0), (1, .int y1_79), (2, .int y2_79), (5, .int y5_85)]) hx hb dX9_turnLine_160 rfl hl (by decide) rfl (fun ls hl => ?_)
              refine lv_iinc (v := (y5_85 + 1)) (lv' := [(5, .int (y5_85 + 1)), (3, .int (y3_85 + (turnWeight (y5_85 : Int32).toNatClampNeg))), (4, .int 1), (0, .ref a0), (1, .int y1_79), (2, .int y2_79)]) hx hb dX9_turnLine_161 hl (k := 5) rfl (by rfl) (by decide) rfl (fun ls hl => ?_)
              refine lv_goto (tgt := 85) hx hb dX9_turnLine_164 (by decide) ?_
              exact ih _ _ _ _ _ _ hf hk _ _ _ hP hD hS (lv_sub hl [3, 4, 5, 1, 2, 0] rfl)
          · have hf := o_t hc hf
            refine lv_aload_n hx hb dX9_turnLine_96 rfl (lv_at hl 0 rfl) ?_
            refine va_get (D := D) (ci := 9) (v := .int token_79) (C := RX9) (T := TX9) (N := 45) hx hb hts in_X9 hown hK hP 0 rfl rfl 31 (by decide) lk_136 (fun _ h9 => h9) rfl dX9_turnLine_97 ?_
            refine lv_iconst (v := 2) hx hb dX9_turnLine_100 (by decide) ?_
            refine lv_icmp_ne (tgt := 133) hx hb dX9_turnLine_101 (by decide) (fun hc => ?_) (fun hc => ?_)
            · have hf := o_f hc hf
              refine lv_iconst (v := 0) hx hb dX9_turnLine_133 (by decide) ?_
              refine lv_istore (lv' := [(4, .int 0), (0, .ref a0), (1, .int y1_79), (2, .int y2_79), (3, .int y3_85), (5, .int y5_85)]) hx hb dX9_turnLine_134 hl (by decide) rfl (fun ls hl => ?_)
              refine lv_iload_n hx hb dX9_turnLine_136 rfl (lv_at hl 4 rfl) ?_
              refine lv_aload_n hx hb dX9_turnLine_137 rfl (lv_at hl 1 rfl) ?_
              refine va_get (D := D) (ci := 9) (v := .ref a11) (C := RX9) (T := TX9) (N := 45) hx hb hts in_X9 hown hK hP 0 rfl rfl 11 (by decide) lk_44 (fun _ h9 => h9) rfl dX9_turnLine_138 ?_
              refine lv_iload hx hb dX9_turnLine_141 (lv_at hl 5 rfl) ?_
              obtain ⟨hi, hf⟩ := gIx_some hf
              refine va_iald hx hb hK hP 4 1 rfl rfl hi dX9_turnLine_143 ?_
              refine lv_iload_n hx hb dX9_turnLine_144 rfl (lv_at hl 3 rfl) ?_
              refine lv_icmp_ne (tgt := 158) hx hb dX9_turnLine_145 (by decide) (fun hc => ?_) (fun hc => ?_)
              · have hf := o_f hc hf
                refine lv_iconst (v := 0) hx hb dX9_turnLine_158 (by decide) ?_
                refine lv_iadd hx hb dX9_turnLine_159 ?_
                refine lv_istore_n (lv' := [(3, .int (y3_85 + 0)), (4, .int 0), (0, .ref a0), (1, .int y1_79), (2, .int y2_79), (5, .int y5_85)]) hx hb dX9_turnLine_160 rfl hl (by decide) rfl (fun ls hl => ?_)
                refine lv_iinc (v := (y5_85 + 1)) (lv' := [(5, .int (y5_85 + 1)), (3, .int (y3_85 + 0)), (4, .int 0), (0, .ref a0), (1, .int y1_79), (2, .int y2_79)]) hx hb dX9_turnLine_161 hl (k := 5) rfl (by rfl) (by decide) rfl (fun ls hl => ?_)
                refine lv_goto (tgt := 85) hx hb dX9_turnLine_164 (by decide) ?_
                exact ih _ _ _ _ _ _ hf hk _ _ _ hP hD hS (lv_sub hl [3, 4, 5, 1, 2, 0] rfl)
              · have hf := o_t hc hf
                refine lv_aload_n hx hb dX9_turnLine_148 rfl (lv_at hl 1 rfl) ?_
                refine va_get (D := D) (ci := 9) (v := .ref a13) (C := RX9) (T := TX9) (N := 45) hx hb hts in_X9 hown hK hP 0 rfl rfl 13 (by decide) lk_50 (fun _ h9 => h9) rfl dX9_turnLine_149 ?_
                refine lv_iload hx hb dX9_turnLine_152 (lv_at hl 5 rfl) ?_
                obtain ⟨hi, hf⟩ := gIx_some hf
                refine va_iald hx hb hK hP 6 1 rfl rfl hi dX9_turnLine_154 ?_
                refine lv_goto (tgt := 159) hx hb dX9_turnLine_155 (by decide) ?_
                refine lv_iadd hx hb dX9_turnLine_159 ?_
                refine lv_istore_n (lv' := [(3, .int (y3_85 + (turnWeight (y5_85 : Int32).toNatClampNeg))), (4, .int 0), (0, .ref a0), (1, .int y1_79), (2, .int y2_79), (5, .int y5_85)]) hx hb dX9_turnLine_160 rfl hl (by decide) rfl (fun ls hl => ?_)
                refine lv_iinc (v := (y5_85 + 1)) (lv' := [(5, .int (y5_85 + 1)), (3, .int (y3_85 + (turnWeight (y5_85 : Int32).toNatClampNeg))), (4, .int 0), (0, .ref a0), (1, .int y1_79), (2, .int y2_79)]) hx hb dX9_turnLine_161 hl (k := 5) rfl (by rfl) (by decide) rfl (fun ls hl => ?_)
                refine lv_goto (tgt := 85) hx hb dX9_turnLine_164 (by decide) ?_
                exact ih _ _ _ _ _ _ hf hk _ _ _ hP hD hS (lv_sub hl [3, 4, 5, 1, 2, 0] rfl)
            · have hf := o_t hc hf
              refine lv_aload_n hx hb dX9_turnLine_104 rfl (lv_at hl 0 rfl) ?_
              refine va_get (D := D) (ci := 9) (v := .ref a11) (C := RX9) (T := TX9) (N := 45) hx hb hts in_X9 hown hK hP 0 rfl rfl 11 (by decide) lk_44 (fun _ h9 => h9) rfl dX9_turnLine_105 ?_
              refine lv_iload hx hb dX9_turnLine_108 (lv_at hl 5 rfl) ?_
              obtain ⟨hi, hf⟩ := gIx_some hf
              refine va_iald hx hb hK hP 4 1 rfl rfl hi dX9_turnLine_110 ?_
              refine lv_iload_n hx hb dX9_turnLine_111 rfl (lv_at hl 2 rfl) ?_
              refine lv_icmp_ne (tgt := 133) hx hb dX9_turnLine_112 (by decide) (fun hc => ?_) (fun hc => ?_)
              · have hf := o_f hc hf
                refine lv_iconst (v := 0) hx hb dX9_turnLine_133 (by decide) ?_
                refine lv_istore (lv' := [(4, .int 0), (0, .ref a0), (1, .int y1_79), (2, .int y2_79), (3, .int y3_85), (5, .int y5_85)]) hx hb dX9_turnLine_134 hl (by decide) rfl (fun ls hl => ?_)
                refine lv_iload_n hx hb dX9_turnLine_136 rfl (lv_at hl 4 rfl) ?_
                refine lv_aload_n hx hb dX9_turnLine_137 rfl (lv_at hl 1 rfl) ?_
                refine va_get (D := D) (ci := 9) (v := .ref a11) (C := RX9) (T := TX9) (N := 45) hx hb hts in_X9 hown hK hP 0 rfl rfl 11 (by decide) lk_44 (fun _ h9 => h9) rfl dX9_turnLine_138 ?_
                refine lv_iload hx hb dX9_turnLine_141 (lv_at hl 5 rfl) ?_
                obtain ⟨hi, hf⟩ := gIx_some hf
                refine va_iald hx hb hK hP 4 1 rfl rfl hi dX9_turnLine_143 ?_
                refine lv_iload_n hx hb dX9_turnLine_144 rfl (lv_at hl 3 rfl) ?_
                refine lv_icmp_ne (tgt := 158) hx hb dX9_turnLine_145 (by decide) (fun hc => ?_) (fun hc => ?_)
                · have hf := o_f hc hf
                  refine lv_iconst (v := 0) hx hb dX9_turnLine_158 (by decide) ?_
                  refine lv_iadd hx hb dX9_turnLine_159 ?_
                  refine lv_istore_n (lv' := [(3, .int (y3_85 + 0)), (4, .int 0), (0, .ref a0), (1, .int y1_79), (2, .int y2_79), (5, .int y5_85)]) hx hb dX9_turnLine_160 rfl hl (by decide) rfl (fun ls hl => ?_)
                  refine lv_iinc (v := (y5_85 + 1)) (lv' := [(5, .int (y5_85 + 1)), (3, .int (y3_85 + 0)), (4, .int 0), (0, .ref a0), (1, .int y1_79), (2, .int y2_79)]) hx hb dX9_turnLine_161 hl (k := 5) rfl (by rfl) (by decide) rfl (fun ls hl => ?_)
                  refine lv_goto (tgt := 85) hx hb dX9_turnLine_164 (by decide) ?_
                  exact ih _ _ _ _ _ _ hf hk _ _ _ hP hD hS (lv_sub hl [3, 4, 5, 1, 2, 0] rfl)
                · have hf := o_t hc hf
                  refine lv_aload_n hx hb dX9_turnLine_148 rfl (lv_at hl 1 rfl) ?_
                  refine va_get (D := D) (ci := 9) (v := .ref a13) (C := RX9) (T := TX9) (N := 45) hx hb hts in_X9 hown hK hP 0 rfl rfl 13 (by decide) lk_50 (fun _ h9 => h9) rfl dX9_turnLine_149 ?_
                  refine lv_iload hx hb dX9_turnLine_152 (lv_at hl 5 rfl) ?_
                  obtain ⟨hi, hf⟩ := gIx_some hf
                  refine va_iald hx hb hK hP 6 1 rfl rfl hi dX9_turnLine_154 ?_
                  refine lv_goto (tgt := 159) hx hb dX9_turnLine_155 (by decide) ?_
                  refine lv_iadd hx hb dX9_turnLine_159 ?_
                  refine lv_istore_n (lv' := [(3, .int (y3_85 + (turnWeight (y5_85 : Int32).toNatClampNeg))), (4, .int 0), (0, .ref a0), (1, .int y1_79), (2, .int y2_79), (5, .int y5_85)]) hx hb dX9_turnLine_160 rfl hl (by decide) rfl (fun ls hl => ?_)
                  refine lv_iinc (v := (y5_85 + 1)) (lv' := [(5, .int (y5_85 + 1)), (3, .int (y3_85 + (turnWeight (y5_85 : Int32).toNatClampNeg))), (4, .int 0), (0, .ref a0), (1, .int y1_79), (2, .int y2_79)]) hx hb dX9_turnLine_161 hl (k := 5) rfl (by rfl) (by decide) rfl (fun ls hl => ?_)
                  refine lv_goto (tgt := 85) hx hb dX9_turnLine_164 (by decide) ?_
                  exact ih _ _ _ _ _ _ hf hk _ _ _ hP hD hS (lv_sub hl [3, 4, 5, 1, 2, 0] rfl)
              · have hf := o_t hc hf
                refine lv_aload_n hx hb dX9_turnLine_115 rfl (lv_at hl 0 rfl) ?_
                refine va_get (D := D) (ci := 9) (v := .ref a12) (C := RX9) (T := TX9) (N := 45) hx hb hts in_X9 hown hK hP 0 rfl rfl 12 (by decide) lk_47 (fun _ h9 => h9) rfl dX9_turnLine_116 ?_
                refine lv_iload hx hb dX9_turnLine_119 (lv_at hl 5 rfl) ?_
                obtain ⟨hi, hf⟩ := gIx_some hf
                refine va_iald hx hb hK hP 5 1 rfl rfl hi dX9_turnLine_121 ?_
                refine lv_aload_n hx hb dX9_turnLine_122 rfl (lv_at hl 0 rfl) ?_
                refine va_get (D := D) (ci := 9) (v := .int value_79) (C := RX9) (T := TX9) (N := 45) hx hb hts in_X9 hown hK hP 0 rfl rfl 32 (by decide) lk_133 (fun _ h9 => h9) rfl dX9_turnLine_123 ?_
                refine lv_icmp_ne (tgt := 133) hx hb dX9_turnLine_126 (by decide) (fun hc => ?_) (fun hc => ?_)
                · have hf := o_f hc hf
                  refine lv_iconst (v := 0) hx hb dX9_turnLine_133 (by decide) ?_
                  refine lv_istore (lv' := [(4, .int 0), (0, .ref a0), (1, .int y1_79), (2, .int y2_79), (3, .int y3_85), (5, .int y5_85)]) hx hb dX9_turnLine_134 hl (by decide) rfl (fun ls hl => ?_)
                  refine lv_iload_n hx hb dX9_turnLine_136 rfl (lv_at hl 4 rfl) ?_
                  refine lv_aload_n hx hb dX9_turnLine_137 rfl (lv_at hl 1 rfl) ?_
                  refine va_get (D := D) (ci := 9) (v := .ref a11) (C := RX9) (T := TX9) (N := 45) hx hb hts in_X9 hown hK hP 0 rfl rfl 11 (by decide) lk_44 (fun _ h9 => h9) rfl dX9_turnLine_138 ?_
                  refine lv_iload hx hb dX9_turnLine_141 (lv_at hl 5 rfl) ?_
                  obtain ⟨hi, hf⟩ := gIx_some hf
                  refine va_iald hx hb hK hP 4 1 rfl rfl hi dX9_turnLine_143 ?_
                  refine lv_iload_n hx hb dX9_turnLine_144 rfl (lv_at hl 3 rfl) ?_
                  refine lv_icmp_ne (tgt := 158) hx hb dX9_turnLine_145 (by decide) (fun hc => ?_) (fun hc => ?_)
                  · have hf := o_f hc hf
                    refine lv_iconst (v := 0) hx hb dX9_turnLine_158 (by decide) ?_
                    refine lv_iadd hx hb dX9_turnLine_159 ?_
                    refine lv_istore_n (lv' := [(3, .int (y3_85 + 0)), (4, .int 0), (0, .ref a0), (1, .int y1_79), (2, .int y2_79), (5, .int y5_85)]) hx hb dX9_turnLine_160 rfl hl (by decide) rfl (fun ls hl => ?_)
                    refine lv_iinc (v := (y5_85 + 1)) (lv' := [(5, .int (y5_85 + 1)), (3, .int (y3_85 + 0)), (4, .int 0), (0, .ref a0), (1, .int y1_79), (2, .int y2_79)]) hx hb dX9_turnLine_161 hl (k := 5) rfl (by rfl) (by decide) rfl (fun ls hl => ?_)
                    refine lv_goto (tgt := 85) hx hb dX9_turnLine_164 (by decide) ?_
                    exact ih _ _ _ _ _ _ hf hk _ _ _ hP hD hS (lv_sub hl [3, 4, 5, 1, 2, 0] rfl)
                  · have hf := o_t hc hf
                    refine lv_aload_n hx hb dX9_turnLine_148 rfl (lv_at hl 1 rfl) ?_
                    refine va_get (D := D) (ci := 9) (v := .ref a13) (C := RX9) (T := TX9) (N := 45) hx hb hts in_X9 hown hK hP 0 rfl rfl 13 (by decide) lk_50 (fun _ h9 => h9) rfl dX9_turnLine_149 ?_
                    refine lv_iload hx hb dX9_turnLine_152 (lv_at hl 5 rfl) ?_
                    obtain ⟨hi, hf⟩ := gIx_some hf
                    refine va_iald hx hb hK hP 6 1 rfl rfl hi dX9_turnLine_154 ?_
                    refine lv_goto (tgt := 159) hx hb dX9_turnLine_155 (by decide) ?_
                    refine lv_iadd hx hb dX9_turnLine_159 ?_
                    refine lv_istore_n (lv' := [(3, .int (y3_85 + (turnWeight (y5_85 : Int32).toNatClampNeg))), (4, .int 0), (0, .ref a0), (1, .int y1_79), (2, .int y2_79), (5, .int y5_85)]) hx hb dX9_turnLine_160 rfl hl (by decide) rfl (fun ls hl => ?_)
                    refine lv_iinc (v := (y5_85 + 1)) (lv' := [(5, .int (y5_85 + 1)), (3, .int (y3_85 + (turnWeight (y5_85 : Int32).toNatClampNeg))), (4, .int 0), (0, .ref a0), (1, .int y1_79), (2, .int y2_79)]) hx hb dX9_turnLine_161 hl (k := 5) rfl (by rfl) (by decide) rfl (fun ls hl => ?_)
                    refine lv_goto (tgt := 85) hx hb dX9_turnLine_164 (by decide) ?_
                    exact ih _ _ _ _ _ _ hf hk _ _ _ hP hD hS (lv_sub hl [3, 4, 5, 1, 2, 0] rfl)
                · have hf := o_t hc hf
                  refine lv_iconst (v := 1) hx hb dX9_turnLine_129 (by decide) ?_
                  refine lv_goto (tgt := 134) hx hb dX9_turnLine_130 (by decide) ?_
                  refine lv_istore (lv' := [(4, .int 1), (0, .ref a0), (1, .int y1_79), (2, .int y2_79), (3, .int y3_85), (5, .int y5_85)]) hx hb dX9_turnLine_134 hl (by decide) rfl (fun ls hl => ?_)
                  refine lv_iload_n hx hb dX9_turnLine_136 rfl (lv_at hl 4 rfl) ?_
                  refine lv_aload_n hx hb dX9_turnLine_137 rfl (lv_at hl 1 rfl) ?_
                  refine va_get (D := D) (ci := 9) (v := .ref a11) (C := RX9) (T := TX9) (N := 45) hx hb hts in_X9 hown hK hP 0 rfl rfl 11 (by decide) lk_44 (fun _ h9 => h9) rfl dX9_turnLine_138 ?_
                  refine lv_iload hx hb dX9_turnLine_141 (lv_at hl 5 rfl) ?_
                  obtain ⟨hi, hf⟩ := gIx_some hf
                  refine va_iald hx hb hK hP 4 1 rfl rfl hi dX9_turnLine_143 ?_
                  refine lv_iload_n hx hb dX9_turnLine_144 rfl (lv_at hl 3 rfl) ?_
                  refine lv_icmp_ne (tgt := 158) hx hb dX9_turnLine_145 (by decide) (fun hc => ?_) (fun hc => ?_)
                  · have hf := o_f hc hf
                    refine lv_iconst (v := 0) hx hb dX9_turnLine_158 (by decide) ?_
                    refine lv_iadd hx hb dX9_turnLine_159 ?_
                    refine lv_istore_n (lv' := [(3, .int (y3_85 + 0)), (4, .int 1), (0, .ref a0), (1, .int y1_79), (2, .int y2_79), (5, .int y5_85)]) hx hb dX9_turnLine_160 rfl hl (by decide) rfl (fun ls hl => ?_)
                    refine lv_iinc (v := (y5_85 + 1)) (lv' := [(5, .int (y5_85 + 1)), (3, .int (y3_85 + 0)), (4, .int 1), (0, .ref a0), (1, .int y1_79), (2, .int y2_79)]) hx hb dX9_turnLine_161 hl (k := 5) rfl (by rfl) (by decide) rfl (fun ls hl => ?_)
                    refine lv_goto (tgt := 85) hx hb dX9_turnLine_164 (by decide) ?_
                    exact ih _ _ _ _ _ _ hf hk _ _ _ hP hD hS (lv_sub hl [3, 4, 5, 1, 2, 0] rfl)
                  · have hf := o_t hc hf
                    refine lv_aload_n hx hb dX9_turnLine_148 rfl (lv_at hl 1 rfl) ?_
                    refine va_get (D := D) (ci := 9) (v := .ref a13) (C := RX9) (T := TX9) (N := 45) hx hb hts in_X9 hown hK hP 0 rfl rfl 13 (by decide) lk_50 (fun _ h9 => h9) rfl dX9_turnLine_149 ?_
                    refine lv_iload hx hb dX9_turnLine_152 (lv_at hl 5 rfl) ?_
                    obtain ⟨hi, hf⟩ := gIx_some hf
                    refine va_iald hx hb hK hP 6 1 rfl rfl hi dX9_turnLine_154 ?_
                    refine lv_goto (tgt := 159) hx hb dX9_turnLine_155 (by decide) ?_
                    refine lv_iadd hx hb dX9_turnLine_159 ?_
                    refine lv_istore_n (lv' := [(3, .int (y3_85 + (turnWeight (y5_85 : Int32).toNatClampNeg))), (4, .int 1), (0, .ref a0), (1, .int y1_79), (2, .int y2_79), (5, .int y5_85)]) hx hb dX9_turnLine_160 rfl hl (by decide) rfl (fun ls hl => ?_)
                    refine lv_iinc (v := (y5_85 + 1)) (lv' := [(5, .int (y5_85 + 1)), (3, .int (y3_85 + (turnWeight (y5_85 : Int32).toNatClampNeg))), (4, .int 1), (0, .ref a0), (1, .int y1_79), (2, .int y2_79)]) hx hb dX9_turnLine_161 hl (k := 5) rfl (by rfl) (by decide) rfl (fun ls hl => ?_)
                    refine lv_goto (tgt := 85) hx hb dX9_turnLine_164 (by decide) ?_
                    exact ih _ _ _ _ _ _ hf hk _ _ _ hP hD hS (lv_sub hl [3, 4, 5, 1, 2, 0] rfl)
    obtain ⟨y5_85o, y4_85o, y3_85o, hc, hf⟩ := ob3_some hf
    refine L85 N _ _ _ _ _ _ hc (fun H locs ls hP hD hS hl => ?_) _ _ _ hP hD hS (lv_sub hl [2, 3, 4, 5, 1, 0] rfl)
    refine lv_iload hx hb dX9_turnLine_167 (lv_at hl 4 rfl) ?_
    refine lv_if_eq (tgt := 178) hx hb dX9_turnLine_169 (by decide) (fun hc => ?_) (fun hc => ?_)
    · have hf := o_t hc hf
      refine lv_aload_n hx hb dX9_turnLine_178 rfl (lv_at hl 0 rfl) ?_
      refine lv_iconst (v := 0) hx hb dX9_turnLine_179 (by decide) ?_
      refine lv_aload_n hx hb dX9_turnLine_180 rfl (lv_at hl 0 rfl) ?_
      refine va_get (D := D) (ci := 9) (v := .ref a6) (C := RX9) (T := TX9) (N := 45) hx hb hts in_X9 hown hK hP 0 rfl rfl 6 (by decide) lk_29 (fun _ h9 => h9) rfl dX9_turnLine_181 ?_
      refine lv_iconst (v := 1) hx hb dX9_turnLine_184 (by decide) ?_
      obtain ⟨hi, hf⟩ := gIx_some hf
      refine va_iald hx hb hK hP 3 1 rfl rfl hi dX9_turnLine_185 ?_
      refine lv_iconst (v := 1) hx hb dX9_turnLine_186 (by decide) ?_
      refine lv_isub hx hb dX9_turnLine_187 ?_
      obtain ⟨r_18, start_19, next__20, token_21, value_22, error_23, errorAt_24, number_25, hc, hf⟩ := ob8_some hf
      refine g_VZ (As := [.int 0, .int ((winds (1 : Int32).toNatClampNeg) - 1)]) (rest := []) (ws' := (w_X9_turnLine kc a0 a1 a2 a3 a4 a5 a6 a7 a8 a9 a10 a11 a12 a13 a14 a15 a16 a17 a18 a19 a20 a21 a22 a23 a24 a25 a26 a27 a28 thrown loftSize startWind seed draftLoft draftStart draftSeed length textSize start_19 next__20 token_21 value_22 error_23 errorAt_24 number_25 undos turns text winds turnFrom turnTo turnWeight)) ⟨hx, hb, hml, hown, hts⟩ hN hK hP hD hS hA (c_X9_takes l D kc N a0 a1 a2 a3 a4 a5 a6 a7 a8 a9 a10 a11 a12 a13 a14 a15 a16 a17 a18 a19 a20 a21 a22 a23 a24 a25 a26 a27 a28 thrown loftSize startWind seed draftLoft draftStart draftSeed length textSize start_79 next__79 token_79 value_79 error_79 errorAt_79 number_79 undos text 0 ((winds (1 : Int32).toNatClampNeg) - 1) r_18 start_19 next__20 token_21 value_22 error_23 errorAt_24 number_25 hc) (cwV 2 hts gX9_turnLine_X9_takes rfl rfl rfl (by decide +kernel) ⟨Nat.le_of_ble_eq_true rfl, Nat.le_of_ble_eq_true rfl⟩) [0, 2] [1, 3, 4, 5, 6] [5, 0, 6, 1, 2, 3, 4] (by exact ⟨rfl, rfl, by decide, rfl⟩) 0 9 rfl rfl rfl rfl hl.1 rfl (Nat.le_of_ble_eq_true rfl) dX9_turnLine_188 ⟨Nat.le_refl _, Nat.le_refl _⟩ (fun H locs hz hP hD hS => ?_)
      have hz_26 := hz
      refine lv_if_ne (tgt := 196) hx hb dX9_turnLine_191 (by decide) (fun hc => ?_) (fun hc => ?_)
      · have hf := o_f hc hf
        refine lv_aload_n hx hb dX9_turnLine_196 rfl (lv_at hl 0 rfl) ?_
        refine va_get (D := D) (ci := 9) (v := .ref a11) (C := RX9) (T := TX9) (N := 45) hx hb hts in_X9 hown hK hP 0 rfl rfl 11 (by decide) lk_44 (fun _ h9 => h9) rfl dX9_turnLine_197 ?_
        refine lv_iload_n hx hb dX9_turnLine_200 rfl (lv_at hl 1 rfl) ?_
        refine lv_iload_n hx hb dX9_turnLine_201 rfl (lv_at hl 2 rfl) ?_
        obtain ⟨hi, hf⟩ := gIx_some hf
        refine va_iast hx hb hK hP hD hS 4 1 rfl rfl hi dX9_turnLine_202 (fun H locs hP hD hS => ?_)
        have hP : va_P D vwCl (w_X9_turnLine kc a0 a1 a2 a3 a4 a5 a6 a7 a8 a9 a10 a11 a12 a13 a14 a15 a16 a17 a18 a19 a20 a21 a22 a23 a24 a25 a26 a27 a28 thrown loftSize startWind seed draftLoft draftStart draftSeed length textSize start_19 next__20 token_21 value_22 error_23 errorAt_24 number_25 undos turns text winds (upd turnFrom (y1_79 : Int32).toNatClampNeg y2_79) turnTo turnWeight) H := hP
        have hD : va_D A (w_X9_turnLine kc a0 a1 a2 a3 a4 a5 a6 a7 a8 a9 a10 a11 a12 a13 a14 a15 a16 a17 a18 a19 a20 a21 a22 a23 a24 a25 a26 a27 a28 thrown loftSize startWind seed draftLoft draftStart draftSeed length textSize start_19 next__20 token_21 value_22 error_23 errorAt_24 number_25 undos turns text winds (upd turnFrom (y1_79 : Int32).toNatClampNeg y2_79) turnTo turnWeight) := hD
        refine lv_aload_n hx hb dX9_turnLine_203 rfl (lv_at hl 0 rfl) ?_
        refine va_get (D := D) (ci := 9) (v := .ref a12) (C := RX9) (T := TX9) (N := 45) hx hb hts in_X9 hown hK hP 0 rfl rfl 12 (by decide) lk_47 (fun _ h9 => h9) rfl dX9_turnLine_204 ?_
        refine lv_iload_n hx hb dX9_turnLine_207 rfl (lv_at hl 1 rfl) ?_
        refine lv_aload_n hx hb dX9_turnLine_208 rfl (lv_at hl 0 rfl) ?_
        refine va_get (D := D) (ci := 9) (v := .int number_25) (C := RX9) (T := TX9) (N := 45) hx hb hts in_X9 hown hK hP 0 rfl rfl 35 (by decide) lk_159 (fun _ h9 => h9) rfl dX9_turnLine_209 ?_
        obtain ⟨hi, hf⟩ := gIx_some hf
        refine va_iast hx hb hK hP hD hS 5 1 rfl rfl hi dX9_turnLine_212 (fun H locs hP hD hS => ?_)
        have hP : va_P D vwCl (w_X9_turnLine kc a0 a1 a2 a3 a4 a5 a6 a7 a8 a9 a10 a11 a12 a13 a14 a15 a16 a17 a18 a19 a20 a21 a22 a23 a24 a25 a26 a27 a28 thrown loftSize startWind seed draftLoft draftStart draftSeed length textSize start_19 next__20 token_21 value_22 error_23 errorAt_24 number_25 undos turns text winds (upd turnFrom (y1_79 : Int32).toNatClampNeg y2_79) (upd turnTo (y1_79 : Int32).toNatClampNeg number_25) turnWeight) H := hP
        have hD : va_D A (w_X9_turnLine kc a0 a1 a2 a3 a4 a5 a6 a7 a8 a9 a10 a11 a12 a13 a14 a15 a16 a17 a18 a19 a20 a21 a22 a23 a24 a25 a26 a27 a28 thrown loftSize startWind seed draftLoft draftStart draftSeed length textSize start_19 next__20 token_21 value_22 error_23 errorAt_24 number_25 undos turns text winds (upd turnFrom (y1_79 : Int32).toNatClampNeg y2_79) (upd turnTo (y1_79 : Int32).toNatClampNeg number_25) turnWeight) := hD
        refine lv_aload_n hx hb dX9_turnLine_213 rfl (lv_at hl 0 rfl) ?_
        refine lv_iconst (v := 1) hx hb dX9_turnLine_214 (by decide) ?_
        refine lv_bipush (v := 10) hx hb dX9_turnLine_215 (by decide) ?_
        refine lv_iload_n hx hb dX9_turnLine_217 rfl (lv_at hl 3 rfl) ?_
        refine lv_isub hx hb dX9_turnLine_218 ?_
        obtain ⟨r_27, start_28, next__29, token_30, value_31, error_32, errorAt_33, number_34, hc, hf⟩ := ob8_some hf
        refine g_VZ (As := [.int 1, .int (10 - y3_85o)]) (rest := []) (ws' := (w_X9_turnLine kc a0 a1 a2 a3 a4 a5 a6 a7 a8 a9 a10 a11 a12 a13 a14 a15 a16 a17 a18 a19 a20 a21 a22 a23 a24 a25 a26 a27 a28 thrown loftSize startWind seed draftLoft draftStart draftSeed length textSize start_28 next__29 token_30 value_31 error_32 errorAt_33 number_34 undos turns text winds (upd turnFrom (y1_79 : Int32).toNatClampNeg y2_79) (upd turnTo (y1_79 : Int32).toNatClampNeg number_25) turnWeight)) ⟨hx, hb, hml, hown, hts⟩ hN hK hP hD hS hA (c_X9_takes l D kc N a0 a1 a2 a3 a4 a5 a6 a7 a8 a9 a10 a11 a12 a13 a14 a15 a16 a17 a18 a19 a20 a21 a22 a23 a24 a25 a26 a27 a28 thrown loftSize startWind seed draftLoft draftStart draftSeed length textSize start_19 next__20 token_21 value_22 error_23 errorAt_24 number_25 undos text 1 (10 - y3_85o) r_27 start_28 next__29 token_30 value_31 error_32 errorAt_33 number_34 hc) (cwV 2 hts gX9_turnLine_X9_takes rfl rfl rfl (by decide +kernel) ⟨Nat.le_of_ble_eq_true rfl, Nat.le_of_ble_eq_true rfl⟩) [0, 2] [1, 3, 4, 5, 6] [5, 0, 6, 1, 2, 3, 4] (by exact ⟨rfl, rfl, by decide, rfl⟩) 0 9 rfl rfl rfl rfl hl.1 rfl (Nat.le_of_ble_eq_true rfl) dX9_turnLine_219 ⟨Nat.le_refl _, Nat.le_refl _⟩ (fun H locs hz hP hD hS => ?_)
        have hz_35 := hz
        refine lv_if_ne (tgt := 227) hx hb dX9_turnLine_222 (by decide) (fun hc => ?_) (fun hc => ?_)
        · have hf := o_f hc hf
          refine lv_aload_n hx hb dX9_turnLine_227 rfl (lv_at hl 0 rfl) ?_
          refine va_get (D := D) (ci := 9) (v := .ref a13) (C := RX9) (T := TX9) (N := 45) hx hb hts in_X9 hown hK hP 0 rfl rfl 13 (by decide) lk_50 (fun _ h9 => h9) rfl dX9_turnLine_228 ?_
          refine lv_iload_n hx hb dX9_turnLine_231 rfl (lv_at hl 1 rfl) ?_
          refine lv_aload_n hx hb dX9_turnLine_232 rfl (lv_at hl 0 rfl) ?_
          refine va_get (D := D) (ci := 9) (v := .int number_34) (C := RX9) (T := TX9) (N := 45) hx hb hts in_X9 hown hK hP 0 rfl rfl 35 (by decide) lk_159 (fun _ h9 => h9) rfl dX9_turnLine_233 ?_
          obtain ⟨hi, hf⟩ := gIx_some hf
          refine va_iast hx hb hK hP hD hS 6 1 rfl rfl hi dX9_turnLine_236 (fun H locs hP hD hS => ?_)
          have hP : va_P D vwCl (w_X9_turnLine kc a0 a1 a2 a3 a4 a5 a6 a7 a8 a9 a10 a11 a12 a13 a14 a15 a16 a17 a18 a19 a20 a21 a22 a23 a24 a25 a26 a27 a28 thrown loftSize startWind seed draftLoft draftStart draftSeed length textSize start_28 next__29 token_30 value_31 error_32 errorAt_33 number_34 undos turns text winds (upd turnFrom (y1_79 : Int32).toNatClampNeg y2_79) (upd turnTo (y1_79 : Int32).toNatClampNeg number_25) (upd turnWeight (y1_79 : Int32).toNatClampNeg number_34)) H := hP
          have hD : va_D A (w_X9_turnLine kc a0 a1 a2 a3 a4 a5 a6 a7 a8 a9 a10 a11 a12 a13 a14 a15 a16 a17 a18 a19 a20 a21 a22 a23 a24 a25 a26 a27 a28 thrown loftSize startWind seed draftLoft draftStart draftSeed length textSize start_28 next__29 token_30 value_31 error_32 errorAt_33 number_34 undos turns text winds (upd turnFrom (y1_79 : Int32).toNatClampNeg y2_79) (upd turnTo (y1_79 : Int32).toNatClampNeg number_25) (upd turnWeight (y1_79 : Int32).toNatClampNeg number_34)) := hD
          refine lv_aload_n hx hb dX9_turnLine_237 rfl (lv_at hl 0 rfl) ?_
          refine va_get (D := D) (ci := 9) (v := .ref a10) (C := RX9) (T := TX9) (N := 45) hx hb hts in_X9 hown hK hP 0 rfl rfl 10 (by decide) lk_41 (fun _ h9 => h9) rfl dX9_turnLine_238 ?_
          refine lv_iconst (v := 1) hx hb dX9_turnLine_241 (by decide) ?_
          refine lv_dup2_11 hx hb dX9_turnLine_242 rfl rfl ?_
          obtain ⟨hi, hf⟩ := gIx_some hf
          refine va_iald hx hb hK hP 1 1 rfl rfl hi dX9_turnLine_243 ?_
          refine lv_iconst (v := 1) hx hb dX9_turnLine_244 (by decide) ?_
          refine lv_iadd hx hb dX9_turnLine_245 ?_
          obtain ⟨hi, hf⟩ := gIx_some hf
          refine va_iast hx hb hK hP hD hS 1 1 rfl rfl hi dX9_turnLine_246 (fun H locs hP hD hS => ?_)
          have hP : va_P D vwCl (w_X9_turnLine kc a0 a1 a2 a3 a4 a5 a6 a7 a8 a9 a10 a11 a12 a13 a14 a15 a16 a17 a18 a19 a20 a21 a22 a23 a24 a25 a26 a27 a28 thrown loftSize startWind seed draftLoft draftStart draftSeed length textSize start_28 next__29 token_30 value_31 error_32 errorAt_33 number_34 undos (upd turns (1 : Int32).toNatClampNeg ((turns (1 : Int32).toNatClampNeg) + 1)) text winds (upd turnFrom (y1_79 : Int32).toNatClampNeg y2_79) (upd turnTo (y1_79 : Int32).toNatClampNeg number_25) (upd turnWeight (y1_79 : Int32).toNatClampNeg number_34)) H := hP
          have hD : va_D A (w_X9_turnLine kc a0 a1 a2 a3 a4 a5 a6 a7 a8 a9 a10 a11 a12 a13 a14 a15 a16 a17 a18 a19 a20 a21 a22 a23 a24 a25 a26 a27 a28 thrown loftSize startWind seed draftLoft draftStart draftSeed length textSize start_28 next__29 token_30 value_31 error_32 errorAt_33 number_34 undos (upd turns (1 : Int32).toNatClampNeg ((turns (1 : Int32).toNatClampNeg) + 1)) text winds (upd turnFrom (y1_79 : Int32).toNatClampNeg y2_79) (upd turnTo (y1_79 : Int32).toNatClampNeg number_25) (upd turnWeight (y1_79 : Int32).toNatClampNeg number_34)) := hD
          refine lv_iconst (v := 1) hx hb dX9_turnLine_247 (by decide) ?_
          cases hf
          exact kR _ _ _ _ (Or.inr rfl) hP hD hS dX9_turnLine_248
        · have hf := o_t hc hf
          refine lv_iconst (v := 0) hx hb dX9_turnLine_225 (by decide) ?_
          cases hf
          exact kR _ _ _ _ (Or.inl rfl) hP hD hS dX9_turnLine_226
      · have hf := o_t hc hf
        refine lv_iconst (v := 0) hx hb dX9_turnLine_194 (by decide) ?_
        cases hf
        exact kR _ _ _ _ (Or.inl rfl) hP hD hS dX9_turnLine_195
    · have hf := o_f hc hf
      refine lv_aload_n hx hb dX9_turnLine_172 rfl (lv_at hl 0 rfl) ?_
      refine lv_iconst (v := 2) hx hb dX9_turnLine_173 (by decide) ?_
      obtain ⟨r_36, error_37, errorAt_38, hc, hf⟩ := ob3_some hf
      refine g_VZ (As := [.int 2]) (rest := []) (ws' := (w_X9_turnLine kc a0 a1 a2 a3 a4 a5 a6 a7 a8 a9 a10 a11 a12 a13 a14 a15 a16 a17 a18 a19 a20 a21 a22 a23 a24 a25 a26 a27 a28 thrown loftSize startWind seed draftLoft draftStart draftSeed length textSize start_79 next__79 token_79 value_79 error_37 errorAt_38 number_79 undos turns text winds turnFrom turnTo turnWeight)) ⟨hx, hb, hml, hown, hts⟩ hN hK hP hD hS hA (c_X9_fails l D kc N a0 a1 a2 a3 a4 a5 a6 a7 a8 a9 a10 a11 a12 a13 a14 a15 a16 a17 a18 a19 a20 a21 a22 a23 a24 a25 a26 a27 a28 thrown loftSize startWind seed draftLoft draftStart draftSeed length textSize start_79 next__79 token_79 value_79 error_79 errorAt_79 number_79 undos 2 r_36 error_37 errorAt_38 hc) (cwV 1 hts gX9_turnLine_X9_fails rfl rfl rfl (by decide +kernel) ⟨Nat.le_of_ble_eq_true rfl, Nat.le_of_ble_eq_true rfl⟩) [0] [1, 2, 3, 4, 5, 6] [6, 0, 1, 2, 3, 4, 5] (by exact ⟨rfl, rfl, by decide, rfl⟩) 0 9 rfl rfl rfl rfl hl.1 rfl (Nat.le_of_ble_eq_true rfl) dX9_turnLine_174 ⟨Nat.le_refl _, Nat.le_refl _⟩ (fun H locs hz hP hD hS => ?_)
      have hz_39 := hz
      cases hf
      exact kR _ _ _ _ hz_39 hP hD hS dX9_turnLine_177
  have J78 : ∀ (y1_78 : Int32) (y2_78 : Int32) (y3_78 : Int32) (start_78 : Int32) (next__78 : Int32) (token_78 : Int32) (value_78 : Int32) (error_78 : Int32) (errorAt_78 : Int32) (number_78 : Int32), f_X9_turnLine_j78 N textSize turns text winds turnFrom turnTo turnWeight y1_78 y2_78 y3_78 start_78 next__78 token_78 value_78 error_78 errorAt_78 number_78 = some (r_, start', next_', token', value', error', errorAt', number', turns', turnFrom', turnTo', turnWeight') → ∀ (H : Heap) (locs : List Loc) (ls : Array Slot), va_P D vwCl (w_X9_turnLine kc a0 a1 a2 a3 a4 a5 a6 a7 a8 a9 a10 a11 a12 a13 a14 a15 a16 a17 a18 a19 a20 a21 a22 a23 a24 a25 a26 a27 a28 thrown loftSize startWind seed draftLoft draftStart draftSeed length textSize start_78 next__78 token_78 value_78 error_78 errorAt_78 number_78 undos turns text winds turnFrom turnTo turnWeight) H → va_D A (w_X9_turnLine kc a0 a1 a2 a3 a4 a5 a6 a7 a8 a9 a10 a11 a12 a13 a14 a15 a16 a17 a18 a19 a20 a21 a22 a23 a24 a25 a26 a27 a28 thrown loftSize startWind seed draftLoft draftStart draftSeed length textSize start_78 next__78 token_78 value_78 error_78 errorAt_78 number_78 undos turns text winds turnFrom turnTo turnWeight) → va_S A s.heap H locs → lv_has ls 6 [(0, .ref a0), (1, .int y1_78), (2, .int y2_78), (3, .int y3_78)] → W p l e ({ frames := 3, cells := 0, slots := 0, locals := 65 }) s m (([.ref a0] : List Value).toArray) below meth c H locs 0 0 Q (F0 m 78 ls []) := by
    clear hf
    intro y1_78 y2_78 y3_78 start_78 next__78 token_78 value_78 error_78 errorAt_78 number_78 hf H locs ls hP hD hS hl
    unfold f_X9_turnLine_j78 at hf
    refine lv_iconst (v := 0) hx hb dX9_turnLine_78 (by decide) ?_
    exact J79 _ _ _ _ _ _ _ _ _ _ _ hf _ _ _ hP hD hS (lv_sub hl [0, 1, 2, 3] rfl)
  have J27 : ∀ (y1_27 : Int32) (k1_27 : Int32), f_X9_turnLine_j27 N textSize start next_ token value error errorAt number turns text winds turnFrom turnTo turnWeight y1_27 k1_27 = some (r_, start', next_', token', value', error', errorAt', number', turns', turnFrom', turnTo', turnWeight') → ∀ (H : Heap) (locs : List Loc) (ls : Array Slot), va_P D vwCl (w_X9_turnLine kc a0 a1 a2 a3 a4 a5 a6 a7 a8 a9 a10 a11 a12 a13 a14 a15 a16 a17 a18 a19 a20 a21 a22 a23 a24 a25 a26 a27 a28 thrown loftSize startWind seed draftLoft draftStart draftSeed length textSize start next_ token value error errorAt number undos turns text winds turnFrom turnTo turnWeight) H → va_D A (w_X9_turnLine kc a0 a1 a2 a3 a4 a5 a6 a7 a8 a9 a10 a11 a12 a13 a14 a15 a16 a17 a18 a19 a20 a21 a22 a23 a24 a25 a26 a27 a28 thrown loftSize startWind seed draftLoft draftStart draftSeed length textSize start next_ token value error errorAt number undos turns text winds turnFrom turnTo turnWeight) → va_S A s.heap H locs → lv_has ls 6 [(0, .ref a0), (1, .int y1_27)] → W p l e ({ frames := 3, cells := 0, slots := 0, locals := 65 }) s m (([.ref a0] : List Value).toArray) below meth c H locs 0 0 Q (F0 m 27 ls [.int k1_27, .ref a0]) := by
    clear hf
    intro y1_27 k1_27 hf H locs ls hP hD hS hl
    unfold f_X9_turnLine_j27 at hf
    obtain ⟨r_1, start_2, next__3, token_4, value_5, error_6, errorAt_7, hc, hf⟩ := ob7_some hf
    refine g_VZ (As := [.int k1_27]) (rest := []) (ws' := (w_X9_turnLine kc a0 a1 a2 a3 a4 a5 a6 a7 a8 a9 a10 a11 a12 a13 a14 a15 a16 a17 a18 a19 a20 a21 a22 a23 a24 a25 a26 a27 a28 thrown loftSize startWind seed draftLoft draftStart draftSeed length textSize start_2 next__3 token_4 value_5 error_6 errorAt_7 number undos turns text winds turnFrom turnTo turnWeight)) ⟨hx, hb, hml, hown, hts⟩ hN hK hP hD hS hA (c_X9_opens l D kc N a0 a1 a2 a3 a4 a5 a6 a7 a8 a9 a10 a11 a12 a13 a14 a15 a16 a17 a18 a19 a20 a21 a22 a23 a24 a25 a26 a27 a28 thrown loftSize startWind seed draftLoft draftStart draftSeed length textSize start next_ token value error errorAt number undos text k1_27 r_1 start_2 next__3 token_4 value_5 error_6 errorAt_7 hc) (cwV 1 hts gX9_turnLine_X9_opens rfl rfl rfl (by decide +kernel) ⟨Nat.le_of_ble_eq_true rfl, Nat.le_of_ble_eq_true rfl⟩) [0, 2] [1, 3, 4, 5, 6] [5, 0, 6, 1, 2, 3, 4] (by exact ⟨rfl, rfl, by decide, rfl⟩) 0 9 rfl rfl rfl rfl hl.1 rfl (Nat.le_of_ble_eq_true rfl) dX9_turnLine_27 ⟨Nat.le_refl _, Nat.le_refl _⟩ (fun H locs hz hP hD hS => ?_)
    have hz_8 := hz
    refine lv_if_eq (tgt := 49) hx hb dX9_turnLine_30 (by decide) (fun hc => ?_) (fun hc => ?_)
    · have hf := o_t hc hf
      refine lv_iconst (v := 0) hx hb dX9_turnLine_49 (by decide) ?_
      cases hf
      exact kR _ _ _ _ (Or.inl rfl) hP hD hS dX9_turnLine_50
    · have hf := o_f hc hf
      refine lv_aload_n hx hb dX9_turnLine_33 rfl (lv_at hl 0 rfl) ?_
      refine lv_iconst (v := 0) hx hb dX9_turnLine_34 (by decide) ?_
      refine lv_aload_n hx hb dX9_turnLine_35 rfl (lv_at hl 0 rfl) ?_
      refine va_get (D := D) (ci := 9) (v := .ref a6) (C := RX9) (T := TX9) (N := 45) hx hb hts in_X9 hown hK hP 0 rfl rfl 6 (by decide) lk_29 (fun _ h9 => h9) rfl dX9_turnLine_36 ?_
      refine lv_iconst (v := 1) hx hb dX9_turnLine_39 (by decide) ?_
      obtain ⟨hi, hf⟩ := gIx_some hf
      refine va_iald hx hb hK hP 3 1 rfl rfl hi dX9_turnLine_40 ?_
      refine lv_iconst (v := 1) hx hb dX9_turnLine_41 (by decide) ?_
      refine lv_isub hx hb dX9_turnLine_42 ?_
      obtain ⟨r_9, start_10, next__11, token_12, value_13, error_14, errorAt_15, number_16, hc, hf⟩ := ob8_some hf
      refine g_VZ (As := [.int 0, .int ((winds (1 : Int32).toNatClampNeg) - 1)]) (rest := []) (ws' := (w_X9_turnLine kc a0 a1 a2 a3 a4 a5 a6 a7 a8 a9 a10 a11 a12 a13 a14 a15 a16 a17 a18 a19 a20 a21 a22 a23 a24 a25 a26 a27 a28 thrown loftSize startWind seed draftLoft draftStart draftSeed length textSize start_10 next__11 token_12 value_13 error_14 errorAt_15 number_16 undos turns text winds turnFrom turnTo turnWeight)) ⟨hx, hb, hml, hown, hts⟩ hN hK hP hD hS hA (c_X9_takes l D kc N a0 a1 a2 a3 a4 a5 a6 a7 a8 a9 a10 a11 a12 a13 a14 a15 a16 a17 a18 a19 a20 a21 a22 a23 a24 a25 a26 a27 a28 thrown loftSize startWind seed draftLoft draftStart draftSeed length textSize start_2 next__3 token_4 value_5 error_6 errorAt_7 number undos text 0 ((winds (1 : Int32).toNatClampNeg) - 1) r_9 start_10 next__11 token_12 value_13 error_14 errorAt_15 number_16 hc) (cwV 2 hts gX9_turnLine_X9_takes rfl rfl rfl (by decide +kernel) ⟨Nat.le_of_ble_eq_true rfl, Nat.le_of_ble_eq_true rfl⟩) [0, 2] [1, 3, 4, 5, 6] [5, 0, 6, 1, 2, 3, 4] (by exact ⟨rfl, rfl, by decide, rfl⟩) 0 9 rfl rfl rfl rfl hl.1 rfl (Nat.le_of_ble_eq_true rfl) dX9_turnLine_43 ⟨Nat.le_refl _, Nat.le_refl _⟩ (fun H locs hz hP hD hS => ?_)
      have hz_17 := hz
      refine lv_if_ne (tgt := 51) hx hb dX9_turnLine_46 (by decide) (fun hc => ?_) (fun hc => ?_)
      · have hf := o_f hc hf
        refine lv_aload_n hx hb dX9_turnLine_51 rfl (lv_at hl 0 rfl) ?_
        refine va_get (D := D) (ci := 9) (v := .int number_16) (C := RX9) (T := TX9) (N := 45) hx hb hts in_X9 hown hK hP 0 rfl rfl 35 (by decide) lk_159 (fun _ h9 => h9) rfl dX9_turnLine_52 ?_
        refine lv_istore_n (lv' := [(2, .int number_16), (0, .ref a0), (1, .int y1_27)]) hx hb dX9_turnLine_55 rfl hl (by decide) rfl (fun ls hl => ?_)
        refine lv_iconst (v := 0) hx hb dX9_turnLine_56 (by decide) ?_
        refine lv_istore_n (lv' := [(3, .int 0), (2, .int number_16), (0, .ref a0), (1, .int y1_27)]) hx hb dX9_turnLine_57 rfl hl (by decide) rfl (fun ls hl => ?_)
        refine lv_aload_n hx hb dX9_turnLine_58 rfl (lv_at hl 2 rfl) ?_
        refine va_get (D := D) (ci := 9) (v := .int token_12) (C := RX9) (T := TX9) (N := 45) hx hb hts in_X9 hown hK hP 0 rfl rfl 31 (by decide) lk_136 (fun _ h9 => h9) rfl dX9_turnLine_59 ?_
        refine lv_iconst (v := 2) hx hb dX9_turnLine_62 (by decide) ?_
        refine lv_icmp_ne (tgt := 78) hx hb dX9_turnLine_63 (by decide) (fun hc => ?_) (fun hc => ?_)
        · have hf := o_f hc hf
          exact J78 _ _ _ _ _ _ _ _ _ _ hf _ _ _ hP hD hS (lv_sub hl [2, 3, 1, 0] rfl)
        · have hf := o_t hc hf
          refine lv_aload_n hx hb dX9_turnLine_66 rfl (lv_at hl 2 rfl) ?_
          refine va_get (D := D) (ci := 9) (v := .int value_13) (C := RX9) (T := TX9) (N := 45) hx hb hts in_X9 hown hK hP 0 rfl rfl 32 (by decide) lk_133 (fun _ h9 => h9) rfl dX9_turnLine_67 ?_
          refine lv_iload_n hx hb dX9_turnLine_70 rfl (lv_at hl 1 rfl) ?_
          refine lv_icmp_ne (tgt := 78) hx hb dX9_turnLine_71 (by decide) (fun hc => ?_) (fun hc => ?_)
          · have hf := o_f hc hf
            exact J78 _ _ _ _ _ _ _ _ _ _ hf _ _ _ hP hD hS (lv_sub hl [2, 3, 1, 0] rfl)
          · have hf := o_t hc hf
            refine lv_iconst (v := 1) hx hb dX9_turnLine_74 (by decide) ?_
            refine lv_goto (tgt := 79) hx hb dX9_turnLine_75 (by decide) ?_
            exact J79 _ _ _ _ _ _ _ _ _ _ _ hf _ _ _ hP hD hS (lv_sub hl [2, 3, 1, 0] rfl)
      · have hf := o_t hc hf
        refine lv_iconst (v := 0) hx hb dX9_turnLine_49 (by decide) ?_
        cases hf
        exact kR _ _ _ _ (Or.inl rfl) hP hD hS dX9_turnLine_50
  unfold f_X9_turnLine at hf
  refine lv_bipush (v := 30) hx hb dX9_turnLine_0 (by decide) ?_
  refine lv_aload_n hx hb dX9_turnLine_2 rfl (lv_at hl 0 rfl) ?_
  refine va_get (D := D) (ci := 9) (v := .ref a10) (C := RX9) (T := TX9) (N := 45) hx hb hts in_X9 hown hK hP 0 rfl rfl 10 (by decide) lk_41 (fun _ h9 => h9) rfl dX9_turnLine_3 ?_
  refine lv_iconst (v := 1) hx hb dX9_turnLine_6 (by decide) ?_
  obtain ⟨hi, hf⟩ := gIx_some hf
  refine va_iald hx hb hK hP 1 1 rfl rfl hi dX9_turnLine_7 ?_
  refine lv_iadd hx hb dX9_turnLine_8 ?_
  refine lv_istore_n (lv' := [(1, .int (30 + (turns (1 : Int32).toNatClampNeg))), (0, .ref a0)]) hx hb dX9_turnLine_9 rfl hl (by decide) rfl (fun ls hl => ?_)
  refine lv_aload_n hx hb dX9_turnLine_10 rfl (lv_at hl 1 rfl) ?_
  refine lv_aload_n hx hb dX9_turnLine_11 rfl (lv_at hl 1 rfl) ?_
  refine va_get (D := D) (ci := 9) (v := .ref a10) (C := RX9) (T := TX9) (N := 45) hx hb hts in_X9 hown hK hP 0 rfl rfl 10 (by decide) lk_41 (fun _ h9 => h9) rfl dX9_turnLine_12 ?_
  refine lv_iconst (v := 1) hx hb dX9_turnLine_15 (by decide) ?_
  obtain ⟨hi, hf⟩ := gIx_some hf
  refine va_iald hx hb hK hP 1 1 rfl rfl hi dX9_turnLine_16 ?_
  refine lv_bipush (v := 30) hx hb dX9_turnLine_17 (by decide) ?_
  refine lv_icmp_ge (tgt := 26) hx hb dX9_turnLine_19 (by decide) (fun hc => ?_) (fun hc => ?_)
  · have hf := o_t hc hf
    refine lv_iconst (v := 0) hx hb dX9_turnLine_26 (by decide) ?_
    exact J27 _ _ hf _ _ _ hP hD hS (lv_sub hl [1, 0] rfl)
  · have hf := o_f hc hf
    refine lv_iconst (v := 1) hx hb dX9_turnLine_22 (by decide) ?_
    refine lv_goto (tgt := 27) hx hb dX9_turnLine_23 (by decide) ?_
    exact J27 _ _ hf _ _ _ hP hD hS (lv_sub hl [1, 0] rfl)
abbrev w_X9_balloonLine (kc : Nat → ClassId) (a0 a1 a2 a3 a4 a5 a6 a7 a8 a9 a10 a11 a12 a13 a14 a15 a16 a17 a18 a19 a20 a21 a22 a23 a24 a25 a26 a27 a28 : Nat) (thrown : Int32) (loftSize : Int32) (startWind : Int32) (seed : Int32) (draftLoft : Int32) (draftStart : Int32) (draftSeed : Int32) (length : Int32) (textSize : Int32) (start : Int32) (next_ : Int32) (token : Int32) (value : Int32) (error : Int32) (errorAt : Int32) (number : Int32) (undos : Int32) (balloons : Nat → Int32) (text : Nat → Int32) (room_ : Nat → Int32) (pigeons : Nat → Int32) : va_W := [(a0, .inr (9, [.int thrown, .ref a1, .ref a2, .ref a3, .ref a4, .ref a5, .ref a6, .ref a7, .ref a8, .ref a9, .ref a10, .ref a11, .ref a12, .ref a13, .ref a14, .ref a15, .ref a16, .ref a17, .ref a18, .ref a19, .int loftSize, .int startWind, .int seed, .int draftLoft, .int draftStart, .int draftSeed, .ref a20, .int length, .int textSize, .int start, .int next_, .int token, .int value, .int error, .int errorAt, .int number, .ref a21, .ref a22, .ref a23, .ref a24, .ref a25, .int undos, .ref a26, .ref a27, .ref a28])), (a14, .inl (kc 1, 2, .inl balloons)), (a20, .inl (kc 0, 900, .inl text)), (a15, .inl (kc 1, 20, .inl room_)), (a16, .inl (kc 1, 20, .inl pigeons))]
set_option maxHeartbeats 4000000 in
set_option maxRecDepth 100000 in
theorem c_X9_balloonLine (l : Launch) (D : va_G) (kc : Nat → ClassId) (N : Nat) (a0 a1 a2 a3 a4 a5 a6 a7 a8 a9 a10 a11 a12 a13 a14 a15 a16 a17 a18 a19 a20 a21 a22 a23 a24 a25 a26 a27 a28 : Nat) (thrown : Int32) (loftSize : Int32) (startWind : Int32) (seed : Int32) (draftLoft : Int32) (draftStart : Int32) (draftSeed : Int32) (length : Int32) (textSize : Int32) (start : Int32) (next_ : Int32) (token : Int32) (value : Int32) (error : Int32) (errorAt : Int32) (number : Int32) (undos : Int32) (balloons : Nat → Int32) (text : Nat → Int32) (room_ : Nat → Int32) (pigeons : Nat → Int32) (r_ : Int32) (start' : Int32) (next_' : Int32) (token' : Int32) (value' : Int32) (error' : Int32) (errorAt' : Int32) (number' : Int32) (balloons' : Nat → Int32) (room_' : Nat → Int32) (pigeons' : Nat → Int32) (hf : f_X9_balloonLine N textSize start next_ token value error errorAt number balloons text room_ pigeons = some (r_, start', next_', token', value', error', errorAt', number', balloons', room_', pigeons')) : MZ l yX9_balloonLine wsX9_balloonLine ({ frames := 3, cells := 0, slots := 0, locals := 65 }) D kc [.ref a0] (w_X9_balloonLine kc a0 a1 a2 a3 a4 a5 a6 a7 a8 a9 a10 a11 a12 a13 a14 a15 a16 a17 a18 a19 a20 a21 a22 a23 a24 a25 a26 a27 a28 thrown loftSize startWind seed draftLoft draftStart draftSeed length textSize start next_ token value error errorAt number undos balloons text room_ pigeons) (w_X9_balloonLine kc a0 a1 a2 a3 a4 a5 a6 a7 a8 a9 a10 a11 a12 a13 a14 a15 a16 a17 a18 a19 a20 a21 a22 a23 a24 a25 a26 a27 a28 thrown loftSize startWind seed draftLoft draftStart draftSeed length textSize start' next_' token' value' error' errorAt' number' undos balloons' text room_' pigeons') r_ := by
  refine gM_Z (cc := cX9_balloonLine) (maxL := 2) (by decide) rfl (Nat.le_of_ble_eq_true rfl) ?_
  intro p e s m below meth c A ls Q hx hb hml hown hts hN hK hP hD hA hl kR
  have hS : va_S A s.heap s.heap [] := va_S.rf
  have hl : lv_has ls 2 [(0, .ref a0)] := hl
  have in_X9 : ∀ w ∈ u_ws RX9 TX9 45, w ∈ wsX9_balloonLine := by decide +kernel
  have lk_53 := hts (.fieldLink RX9 53 "BalloonMailModel" "balloons" "[I") (by decide +kernel)
  have lk_56 := hts (.fieldLink RX9 56 "BalloonMailModel" "room" "[I") (by decide +kernel)
  have lk_159 := hts (.fieldLink RX9 159 "BalloonMailModel" "number" "I") (by decide +kernel)
  have lk_59 := hts (.fieldLink RX9 59 "BalloonMailModel" "pigeons" "[I") (by decide +kernel)
  have J27 : ∀ (y1_27 : Int32) (k1_27 : Int32), f_X9_balloonLine_j27 N textSize start next_ token value error errorAt number balloons text room_ pigeons y1_27 k1_27 = some (r_, start', next_', token', value', error', errorAt', number', balloons', room_', pigeons') → ∀ (H : Heap) (locs : List Loc) (ls : Array Slot), va_P D vwCl (w_X9_balloonLine kc a0 a1 a2 a3 a4 a5 a6 a7 a8 a9 a10 a11 a12 a13 a14 a15 a16 a17 a18 a19 a20 a21 a22 a23 a24 a25 a26 a27 a28 thrown loftSize startWind seed draftLoft draftStart draftSeed length textSize start next_ token value error errorAt number undos balloons text room_ pigeons) H → va_D A (w_X9_balloonLine kc a0 a1 a2 a3 a4 a5 a6 a7 a8 a9 a10 a11 a12 a13 a14 a15 a16 a17 a18 a19 a20 a21 a22 a23 a24 a25 a26 a27 a28 thrown loftSize startWind seed draftLoft draftStart draftSeed length textSize start next_ token value error errorAt number undos balloons text room_ pigeons) → va_S A s.heap H locs → lv_has ls 2 [(0, .ref a0), (1, .int y1_27)] → W p l e ({ frames := 3, cells := 0, slots := 0, locals := 65 }) s m (([.ref a0] : List Value).toArray) below meth c H locs 0 0 Q (F0 m 27 ls [.int k1_27, .ref a0]) := by
    clear hf
    intro y1_27 k1_27 hf H locs ls hP hD hS hl
    unfold f_X9_balloonLine_j27 at hf
    obtain ⟨r_1, start_2, next__3, token_4, value_5, error_6, errorAt_7, hc, hf⟩ := ob7_some hf
    refine g_VZ (As := [.int k1_27]) (rest := []) (ws' := (w_X9_balloonLine kc a0 a1 a2 a3 a4 a5 a6 a7 a8 a9 a10 a11 a12 a13 a14 a15 a16 a17 a18 a19 a20 a21 a22 a23 a24 a25 a26 a27 a28 thrown loftSize startWind seed draftLoft draftStart draftSeed length textSize start_2 next__3 token_4 value_5 error_6 errorAt_7 number undos balloons text room_ pigeons)) ⟨hx, hb, hml, hown, hts⟩ hN hK hP hD hS hA (c_X9_opens l D kc N a0 a1 a2 a3 a4 a5 a6 a7 a8 a9 a10 a11 a12 a13 a14 a15 a16 a17 a18 a19 a20 a21 a22 a23 a24 a25 a26 a27 a28 thrown loftSize startWind seed draftLoft draftStart draftSeed length textSize start next_ token value error errorAt number undos text k1_27 r_1 start_2 next__3 token_4 value_5 error_6 errorAt_7 hc) (cwV 1 hts gX9_balloonLine_X9_opens rfl rfl rfl (by decide +kernel) ⟨Nat.le_of_ble_eq_true rfl, Nat.le_of_ble_eq_true rfl⟩) [0, 2] [1, 3, 4] [3, 0, 4, 1, 2] (by exact ⟨rfl, rfl, by decide, rfl⟩) 0 9 rfl rfl rfl rfl hl.1 rfl (Nat.le_of_ble_eq_true rfl) dX9_balloonLine_27 ⟨Nat.le_refl _, Nat.le_refl _⟩ (fun H locs hz hP hD hS => ?_)
    have hz_8 := hz
    refine lv_if_eq (tgt := 44) hx hb dX9_balloonLine_30 (by decide) (fun hc => ?_) (fun hc => ?_)
    · have hf := o_t hc hf
      refine lv_iconst (v := 0) hx hb dX9_balloonLine_44 (by decide) ?_
      cases hf
      exact kR _ _ _ _ (Or.inl rfl) hP hD hS dX9_balloonLine_45
    · have hf := o_f hc hf
      refine lv_aload_n hx hb dX9_balloonLine_33 rfl (lv_at hl 0 rfl) ?_
      refine lv_iconst (v := 1) hx hb dX9_balloonLine_34 (by decide) ?_
      refine lv_sipush (v := 999) hx hb dX9_balloonLine_35 (by decide) ?_
      obtain ⟨r_9, start_10, next__11, token_12, value_13, error_14, errorAt_15, number_16, hc, hf⟩ := ob8_some hf
      refine g_VZ (As := [.int 1, .int 999]) (rest := []) (ws' := (w_X9_balloonLine kc a0 a1 a2 a3 a4 a5 a6 a7 a8 a9 a10 a11 a12 a13 a14 a15 a16 a17 a18 a19 a20 a21 a22 a23 a24 a25 a26 a27 a28 thrown loftSize startWind seed draftLoft draftStart draftSeed length textSize start_10 next__11 token_12 value_13 error_14 errorAt_15 number_16 undos balloons text room_ pigeons)) ⟨hx, hb, hml, hown, hts⟩ hN hK hP hD hS hA (c_X9_takes l D kc N a0 a1 a2 a3 a4 a5 a6 a7 a8 a9 a10 a11 a12 a13 a14 a15 a16 a17 a18 a19 a20 a21 a22 a23 a24 a25 a26 a27 a28 thrown loftSize startWind seed draftLoft draftStart draftSeed length textSize start_2 next__3 token_4 value_5 error_6 errorAt_7 number undos text 1 999 r_9 start_10 next__11 token_12 value_13 error_14 errorAt_15 number_16 hc) (cwV 2 hts gX9_balloonLine_X9_takes rfl rfl rfl (by decide +kernel) ⟨Nat.le_of_ble_eq_true rfl, Nat.le_of_ble_eq_true rfl⟩) [0, 2] [1, 3, 4] [3, 0, 4, 1, 2] (by exact ⟨rfl, rfl, by decide, rfl⟩) 0 9 rfl rfl rfl rfl hl.1 rfl (Nat.le_of_ble_eq_true rfl) dX9_balloonLine_38 ⟨Nat.le_refl _, Nat.le_refl _⟩ (fun H locs hz hP hD hS => ?_)
      have hz_17 := hz
      refine lv_if_ne (tgt := 46) hx hb dX9_balloonLine_41 (by decide) (fun hc => ?_) (fun hc => ?_)
      · have hf := o_f hc hf
        refine lv_aload_n hx hb dX9_balloonLine_46 rfl (lv_at hl 0 rfl) ?_
        refine va_get (D := D) (ci := 9) (v := .ref a15) (C := RX9) (T := TX9) (N := 45) hx hb hts in_X9 hown hK hP 0 rfl rfl 15 (by decide) lk_56 (fun _ h9 => h9) rfl dX9_balloonLine_47 ?_
        refine lv_iload_n hx hb dX9_balloonLine_50 rfl (lv_at hl 1 rfl) ?_
        refine lv_aload_n hx hb dX9_balloonLine_51 rfl (lv_at hl 0 rfl) ?_
        refine va_get (D := D) (ci := 9) (v := .int number_16) (C := RX9) (T := TX9) (N := 45) hx hb hts in_X9 hown hK hP 0 rfl rfl 35 (by decide) lk_159 (fun _ h9 => h9) rfl dX9_balloonLine_52 ?_
        obtain ⟨hi, hf⟩ := gIx_some hf
        refine va_iast hx hb hK hP hD hS 3 1 rfl rfl hi dX9_balloonLine_55 (fun H locs hP hD hS => ?_)
        have hP : va_P D vwCl (w_X9_balloonLine kc a0 a1 a2 a3 a4 a5 a6 a7 a8 a9 a10 a11 a12 a13 a14 a15 a16 a17 a18 a19 a20 a21 a22 a23 a24 a25 a26 a27 a28 thrown loftSize startWind seed draftLoft draftStart draftSeed length textSize start_10 next__11 token_12 value_13 error_14 errorAt_15 number_16 undos balloons text (upd room_ (y1_27 : Int32).toNatClampNeg number_16) pigeons) H := hP
        have hD : va_D A (w_X9_balloonLine kc a0 a1 a2 a3 a4 a5 a6 a7 a8 a9 a10 a11 a12 a13 a14 a15 a16 a17 a18 a19 a20 a21 a22 a23 a24 a25 a26 a27 a28 thrown loftSize startWind seed draftLoft draftStart draftSeed length textSize start_10 next__11 token_12 value_13 error_14 errorAt_15 number_16 undos balloons text (upd room_ (y1_27 : Int32).toNatClampNeg number_16) pigeons) := hD
        refine lv_aload_n hx hb dX9_balloonLine_56 rfl (lv_at hl 0 rfl) ?_
        refine lv_iconst (v := 0) hx hb dX9_balloonLine_57 (by decide) ?_
        refine lv_iconst (v := 4) hx hb dX9_balloonLine_58 (by decide) ?_
        obtain ⟨r_18, start_19, next__20, token_21, value_22, error_23, errorAt_24, number_25, hc, hf⟩ := ob8_some hf
        refine g_VZ (As := [.int 0, .int 4]) (rest := []) (ws' := (w_X9_balloonLine kc a0 a1 a2 a3 a4 a5 a6 a7 a8 a9 a10 a11 a12 a13 a14 a15 a16 a17 a18 a19 a20 a21 a22 a23 a24 a25 a26 a27 a28 thrown loftSize startWind seed draftLoft draftStart draftSeed length textSize start_19 next__20 token_21 value_22 error_23 errorAt_24 number_25 undos balloons text (upd room_ (y1_27 : Int32).toNatClampNeg number_16) pigeons)) ⟨hx, hb, hml, hown, hts⟩ hN hK hP hD hS hA (c_X9_takes l D kc N a0 a1 a2 a3 a4 a5 a6 a7 a8 a9 a10 a11 a12 a13 a14 a15 a16 a17 a18 a19 a20 a21 a22 a23 a24 a25 a26 a27 a28 thrown loftSize startWind seed draftLoft draftStart draftSeed length textSize start_10 next__11 token_12 value_13 error_14 errorAt_15 number_16 undos text 0 4 r_18 start_19 next__20 token_21 value_22 error_23 errorAt_24 number_25 hc) (cwV 2 hts gX9_balloonLine_X9_takes rfl rfl rfl (by decide +kernel) ⟨Nat.le_of_ble_eq_true rfl, Nat.le_of_ble_eq_true rfl⟩) [0, 2] [1, 3, 4] [3, 0, 4, 1, 2] (by exact ⟨rfl, rfl, by decide, rfl⟩) 0 9 rfl rfl rfl rfl hl.1 rfl (Nat.le_of_ble_eq_true rfl) dX9_balloonLine_59 ⟨Nat.le_refl _, Nat.le_refl _⟩ (fun H locs hz hP hD hS => ?_)
        have hz_26 := hz
        refine lv_if_ne (tgt := 67) hx hb dX9_balloonLine_62 (by decide) (fun hc => ?_) (fun hc => ?_)
        · have hf := o_f hc hf
          refine lv_aload_n hx hb dX9_balloonLine_67 rfl (lv_at hl 0 rfl) ?_
          refine va_get (D := D) (ci := 9) (v := .ref a16) (C := RX9) (T := TX9) (N := 45) hx hb hts in_X9 hown hK hP 0 rfl rfl 16 (by decide) lk_59 (fun _ h9 => h9) rfl dX9_balloonLine_68 ?_
          refine lv_iload_n hx hb dX9_balloonLine_71 rfl (lv_at hl 1 rfl) ?_
          refine lv_aload_n hx hb dX9_balloonLine_72 rfl (lv_at hl 0 rfl) ?_
          refine va_get (D := D) (ci := 9) (v := .int number_25) (C := RX9) (T := TX9) (N := 45) hx hb hts in_X9 hown hK hP 0 rfl rfl 35 (by decide) lk_159 (fun _ h9 => h9) rfl dX9_balloonLine_73 ?_
          obtain ⟨hi, hf⟩ := gIx_some hf
          refine va_iast hx hb hK hP hD hS 4 1 rfl rfl hi dX9_balloonLine_76 (fun H locs hP hD hS => ?_)
          have hP : va_P D vwCl (w_X9_balloonLine kc a0 a1 a2 a3 a4 a5 a6 a7 a8 a9 a10 a11 a12 a13 a14 a15 a16 a17 a18 a19 a20 a21 a22 a23 a24 a25 a26 a27 a28 thrown loftSize startWind seed draftLoft draftStart draftSeed length textSize start_19 next__20 token_21 value_22 error_23 errorAt_24 number_25 undos balloons text (upd room_ (y1_27 : Int32).toNatClampNeg number_16) (upd pigeons (y1_27 : Int32).toNatClampNeg number_25)) H := hP
          have hD : va_D A (w_X9_balloonLine kc a0 a1 a2 a3 a4 a5 a6 a7 a8 a9 a10 a11 a12 a13 a14 a15 a16 a17 a18 a19 a20 a21 a22 a23 a24 a25 a26 a27 a28 thrown loftSize startWind seed draftLoft draftStart draftSeed length textSize start_19 next__20 token_21 value_22 error_23 errorAt_24 number_25 undos balloons text (upd room_ (y1_27 : Int32).toNatClampNeg number_16) (upd pigeons (y1_27 : Int32).toNatClampNeg number_25)) := hD
          refine lv_aload_n hx hb dX9_balloonLine_77 rfl (lv_at hl 0 rfl) ?_
          refine va_get (D := D) (ci := 9) (v := .ref a14) (C := RX9) (T := TX9) (N := 45) hx hb hts in_X9 hown hK hP 0 rfl rfl 14 (by decide) lk_53 (fun _ h9 => h9) rfl dX9_balloonLine_78 ?_
          refine lv_iconst (v := 1) hx hb dX9_balloonLine_81 (by decide) ?_
          refine lv_dup2_11 hx hb dX9_balloonLine_82 rfl rfl ?_
          obtain ⟨hi, hf⟩ := gIx_some hf
          refine va_iald hx hb hK hP 1 1 rfl rfl hi dX9_balloonLine_83 ?_
          refine lv_iconst (v := 1) hx hb dX9_balloonLine_84 (by decide) ?_
          refine lv_iadd hx hb dX9_balloonLine_85 ?_
          obtain ⟨hi, hf⟩ := gIx_some hf
          refine va_iast hx hb hK hP hD hS 1 1 rfl rfl hi dX9_balloonLine_86 (fun H locs hP hD hS => ?_)
          have hP : va_P D vwCl (w_X9_balloonLine kc a0 a1 a2 a3 a4 a5 a6 a7 a8 a9 a10 a11 a12 a13 a14 a15 a16 a17 a18 a19 a20 a21 a22 a23 a24 a25 a26 a27 a28 thrown loftSize startWind seed draftLoft draftStart draftSeed length textSize start_19 next__20 token_21 value_22 error_23 errorAt_24 number_25 undos (upd balloons (1 : Int32).toNatClampNeg ((balloons (1 : Int32).toNatClampNeg) + 1)) text (upd room_ (y1_27 : Int32).toNatClampNeg number_16) (upd pigeons (y1_27 : Int32).toNatClampNeg number_25)) H := hP
          have hD : va_D A (w_X9_balloonLine kc a0 a1 a2 a3 a4 a5 a6 a7 a8 a9 a10 a11 a12 a13 a14 a15 a16 a17 a18 a19 a20 a21 a22 a23 a24 a25 a26 a27 a28 thrown loftSize startWind seed draftLoft draftStart draftSeed length textSize start_19 next__20 token_21 value_22 error_23 errorAt_24 number_25 undos (upd balloons (1 : Int32).toNatClampNeg ((balloons (1 : Int32).toNatClampNeg) + 1)) text (upd room_ (y1_27 : Int32).toNatClampNeg number_16) (upd pigeons (y1_27 : Int32).toNatClampNeg number_25)) := hD
          refine lv_iconst (v := 1) hx hb dX9_balloonLine_87 (by decide) ?_
          cases hf
          exact kR _ _ _ _ (Or.inr rfl) hP hD hS dX9_balloonLine_88
        · have hf := o_t hc hf
          refine lv_iconst (v := 0) hx hb dX9_balloonLine_65 (by decide) ?_
          cases hf
          exact kR _ _ _ _ (Or.inl rfl) hP hD hS dX9_balloonLine_66
      · have hf := o_t hc hf
        refine lv_iconst (v := 0) hx hb dX9_balloonLine_44 (by decide) ?_
        cases hf
        exact kR _ _ _ _ (Or.inl rfl) hP hD hS dX9_balloonLine_45
  unfold f_X9_balloonLine at hf
  refine lv_bipush (v := 10) hx hb dX9_balloonLine_0 (by decide) ?_
  refine lv_aload_n hx hb dX9_balloonLine_2 rfl (lv_at hl 0 rfl) ?_
  refine va_get (D := D) (ci := 9) (v := .ref a14) (C := RX9) (T := TX9) (N := 45) hx hb hts in_X9 hown hK hP 0 rfl rfl 14 (by decide) lk_53 (fun _ h9 => h9) rfl dX9_balloonLine_3 ?_
  refine lv_iconst (v := 1) hx hb dX9_balloonLine_6 (by decide) ?_
  obtain ⟨hi, hf⟩ := gIx_some hf
  refine va_iald hx hb hK hP 1 1 rfl rfl hi dX9_balloonLine_7 ?_
  refine lv_iadd hx hb dX9_balloonLine_8 ?_
  refine lv_istore_n (lv' := [(1, .int (10 + (balloons (1 : Int32).toNatClampNeg))), (0, .ref a0)]) hx hb dX9_balloonLine_9 rfl hl (by decide) rfl (fun ls hl => ?_)
  refine lv_aload_n hx hb dX9_balloonLine_10 rfl (lv_at hl 1 rfl) ?_
  refine lv_aload_n hx hb dX9_balloonLine_11 rfl (lv_at hl 1 rfl) ?_
  refine va_get (D := D) (ci := 9) (v := .ref a14) (C := RX9) (T := TX9) (N := 45) hx hb hts in_X9 hown hK hP 0 rfl rfl 14 (by decide) lk_53 (fun _ h9 => h9) rfl dX9_balloonLine_12 ?_
  refine lv_iconst (v := 1) hx hb dX9_balloonLine_15 (by decide) ?_
  obtain ⟨hi, hf⟩ := gIx_some hf
  refine va_iald hx hb hK hP 1 1 rfl rfl hi dX9_balloonLine_16 ?_
  refine lv_bipush (v := 10) hx hb dX9_balloonLine_17 (by decide) ?_
  refine lv_icmp_ge (tgt := 26) hx hb dX9_balloonLine_19 (by decide) (fun hc => ?_) (fun hc => ?_)
  · have hf := o_t hc hf
    refine lv_iconst (v := 0) hx hb dX9_balloonLine_26 (by decide) ?_
    exact J27 _ _ hf _ _ _ hP hD hS (lv_sub hl [1, 0] rfl)
  · have hf := o_f hc hf
    refine lv_iconst (v := 1) hx hb dX9_balloonLine_22 (by decide) ?_
    refine lv_goto (tgt := 27) hx hb dX9_balloonLine_23 (by decide) ?_
    exact J27 _ _ hf _ _ _ hP hD hS (lv_sub hl [1, 0] rfl)
abbrev w_X9_letterLine (kc : Nat → ClassId) (a0 a1 a2 a3 a4 a5 a6 a7 a8 a9 a10 a11 a12 a13 a14 a15 a16 a17 a18 a19 a20 a21 a22 a23 a24 a25 a26 a27 a28 : Nat) (thrown : Int32) (loftSize : Int32) (startWind : Int32) (seed : Int32) (draftLoft : Int32) (draftStart : Int32) (draftSeed : Int32) (length : Int32) (textSize : Int32) (start : Int32) (next_ : Int32) (token : Int32) (value : Int32) (error : Int32) (errorAt : Int32) (number : Int32) (undos : Int32) (letters : Nat → Int32) (text : Nat → Int32) (weight : Nat → Int32) (priority : Nat → Int32) : va_W := [(a0, .inr (9, [.int thrown, .ref a1, .ref a2, .ref a3, .ref a4, .ref a5, .ref a6, .ref a7, .ref a8, .ref a9, .ref a10, .ref a11, .ref a12, .ref a13, .ref a14, .ref a15, .ref a16, .ref a17, .ref a18, .ref a19, .int loftSize, .int startWind, .int seed, .int draftLoft, .int draftStart, .int draftSeed, .ref a20, .int length, .int textSize, .int start, .int next_, .int token, .int value, .int error, .int errorAt, .int number, .ref a21, .ref a22, .ref a23, .ref a24, .ref a25, .int undos, .ref a26, .ref a27, .ref a28])), (a17, .inl (kc 1, 2, .inl letters)), (a20, .inl (kc 0, 900, .inl text)), (a18, .inl (kc 1, 48, .inl weight)), (a19, .inl (kc 1, 48, .inl priority))]
set_option maxHeartbeats 4000000 in
set_option maxRecDepth 100000 in
theorem c_X9_letterLine (l : Launch) (D : va_G) (kc : Nat → ClassId) (N : Nat) (a0 a1 a2 a3 a4 a5 a6 a7 a8 a9 a10 a11 a12 a13 a14 a15 a16 a17 a18 a19 a20 a21 a22 a23 a24 a25 a26 a27 a28 : Nat) (thrown : Int32) (loftSize : Int32) (startWind : Int32) (seed : Int32) (draftLoft : Int32) (draftStart : Int32) (draftSeed : Int32) (length : Int32) (textSize : Int32) (start : Int32) (next_ : Int32) (token : Int32) (value : Int32) (error : Int32) (errorAt : Int32) (number : Int32) (undos : Int32) (letters : Nat → Int32) (text : Nat → Int32) (weight : Nat → Int32) (priority : Nat → Int32) (r_ : Int32) (start' : Int32) (next_' : Int32) (token' : Int32) (value' : Int32) (error' : Int32) (errorAt' : Int32) (number' : Int32) (letters' : Nat → Int32) (weight' : Nat → Int32) (priority' : Nat → Int32) (hf : f_X9_letterLine N textSize start next_ token value error errorAt number letters text weight priority = some (r_, start', next_', token', value', error', errorAt', number', letters', weight', priority')) : MZ l yX9_letterLine wsX9_letterLine ({ frames := 3, cells := 0, slots := 0, locals := 65 }) D kc [.ref a0] (w_X9_letterLine kc a0 a1 a2 a3 a4 a5 a6 a7 a8 a9 a10 a11 a12 a13 a14 a15 a16 a17 a18 a19 a20 a21 a22 a23 a24 a25 a26 a27 a28 thrown loftSize startWind seed draftLoft draftStart draftSeed length textSize start next_ token value error errorAt number undos letters text weight priority) (w_X9_letterLine kc a0 a1 a2 a3 a4 a5 a6 a7 a8 a9 a10 a11 a12 a13 a14 a15 a16 a17 a18 a19 a20 a21 a22 a23 a24 a25 a26 a27 a28 thrown loftSize startWind seed draftLoft draftStart draftSeed length textSize start' next_' token' value' error' errorAt' number' undos letters' text weight' priority') r_ := by
  refine gM_Z (cc := cX9_letterLine) (maxL := 2) (by decide) rfl (Nat.le_of_ble_eq_true rfl) ?_
  intro p e s m below meth c A ls Q hx hb hml hown hts hN hK hP hD hA hl kR
  have hS : va_S A s.heap s.heap [] := va_S.rf
  have hl : lv_has ls 2 [(0, .ref a0)] := hl
  have in_X9 : ∀ w ∈ u_ws RX9 TX9 45, w ∈ wsX9_letterLine := by decide +kernel
  have lk_62 := hts (.fieldLink RX9 62 "BalloonMailModel" "letters" "[I") (by decide +kernel)
  have lk_65 := hts (.fieldLink RX9 65 "BalloonMailModel" "weight" "[I") (by decide +kernel)
  have lk_159 := hts (.fieldLink RX9 159 "BalloonMailModel" "number" "I") (by decide +kernel)
  have lk_68 := hts (.fieldLink RX9 68 "BalloonMailModel" "priority" "[I") (by decide +kernel)
  have J27 : ∀ (y1_27 : Int32) (k1_27 : Int32), f_X9_letterLine_j27 N textSize start next_ token value error errorAt number letters text weight priority y1_27 k1_27 = some (r_, start', next_', token', value', error', errorAt', number', letters', weight', priority') → ∀ (H : Heap) (locs : List Loc) (ls : Array Slot), va_P D vwCl (w_X9_letterLine kc a0 a1 a2 a3 a4 a5 a6 a7 a8 a9 a10 a11 a12 a13 a14 a15 a16 a17 a18 a19 a20 a21 a22 a23 a24 a25 a26 a27 a28 thrown loftSize startWind seed draftLoft draftStart draftSeed length textSize start next_ token value error errorAt number undos letters text weight priority) H → va_D A (w_X9_letterLine kc a0 a1 a2 a3 a4 a5 a6 a7 a8 a9 a10 a11 a12 a13 a14 a15 a16 a17 a18 a19 a20 a21 a22 a23 a24 a25 a26 a27 a28 thrown loftSize startWind seed draftLoft draftStart draftSeed length textSize start next_ token value error errorAt number undos letters text weight priority) → va_S A s.heap H locs → lv_has ls 2 [(0, .ref a0), (1, .int y1_27)] → W p l e ({ frames := 3, cells := 0, slots := 0, locals := 65 }) s m (([.ref a0] : List Value).toArray) below meth c H locs 0 0 Q (F0 m 27 ls [.int k1_27, .ref a0]) := by
    clear hf
    intro y1_27 k1_27 hf H locs ls hP hD hS hl
    unfold f_X9_letterLine_j27 at hf
    obtain ⟨r_1, start_2, next__3, token_4, value_5, error_6, errorAt_7, hc, hf⟩ := ob7_some hf
    refine g_VZ (As := [.int k1_27]) (rest := []) (ws' := (w_X9_letterLine kc a0 a1 a2 a3 a4 a5 a6 a7 a8 a9 a10 a11 a12 a13 a14 a15 a16 a17 a18 a19 a20 a21 a22 a23 a24 a25 a26 a27 a28 thrown loftSize startWind seed draftLoft draftStart draftSeed length textSize start_2 next__3 token_4 value_5 error_6 errorAt_7 number undos letters text weight priority)) ⟨hx, hb, hml, hown, hts⟩ hN hK hP hD hS hA (c_X9_opens l D kc N a0 a1 a2 a3 a4 a5 a6 a7 a8 a9 a10 a11 a12 a13 a14 a15 a16 a17 a18 a19 a20 a21 a22 a23 a24 a25 a26 a27 a28 thrown loftSize startWind seed draftLoft draftStart draftSeed length textSize start next_ token value error errorAt number undos text k1_27 r_1 start_2 next__3 token_4 value_5 error_6 errorAt_7 hc) (cwV 1 hts gX9_letterLine_X9_opens rfl rfl rfl (by decide +kernel) ⟨Nat.le_of_ble_eq_true rfl, Nat.le_of_ble_eq_true rfl⟩) [0, 2] [1, 3, 4] [3, 0, 4, 1, 2] (by exact ⟨rfl, rfl, by decide, rfl⟩) 0 9 rfl rfl rfl rfl hl.1 rfl (Nat.le_of_ble_eq_true rfl) dX9_letterLine_27 ⟨Nat.le_refl _, Nat.le_refl _⟩ (fun H locs hz hP hD hS => ?_)
    have hz_8 := hz
    refine lv_if_eq (tgt := 43) hx hb dX9_letterLine_30 (by decide) (fun hc => ?_) (fun hc => ?_)
    · have hf := o_t hc hf
      refine lv_iconst (v := 0) hx hb dX9_letterLine_43 (by decide) ?_
      cases hf
      exact kR _ _ _ _ (Or.inl rfl) hP hD hS dX9_letterLine_44
    · have hf := o_f hc hf
      refine lv_aload_n hx hb dX9_letterLine_33 rfl (lv_at hl 0 rfl) ?_
      refine lv_iconst (v := 1) hx hb dX9_letterLine_34 (by decide) ?_
      refine lv_bipush (v := 99) hx hb dX9_letterLine_35 (by decide) ?_
      obtain ⟨r_9, start_10, next__11, token_12, value_13, error_14, errorAt_15, number_16, hc, hf⟩ := ob8_some hf
      refine g_VZ (As := [.int 1, .int 99]) (rest := []) (ws' := (w_X9_letterLine kc a0 a1 a2 a3 a4 a5 a6 a7 a8 a9 a10 a11 a12 a13 a14 a15 a16 a17 a18 a19 a20 a21 a22 a23 a24 a25 a26 a27 a28 thrown loftSize startWind seed draftLoft draftStart draftSeed length textSize start_10 next__11 token_12 value_13 error_14 errorAt_15 number_16 undos letters text weight priority)) ⟨hx, hb, hml, hown, hts⟩ hN hK hP hD hS hA (c_X9_takes l D kc N a0 a1 a2 a3 a4 a5 a6 a7 a8 a9 a10 a11 a12 a13 a14 a15 a16 a17 a18 a19 a20 a21 a22 a23 a24 a25 a26 a27 a28 thrown loftSize startWind seed draftLoft draftStart draftSeed length textSize start_2 next__3 token_4 value_5 error_6 errorAt_7 number undos text 1 99 r_9 start_10 next__11 token_12 value_13 error_14 errorAt_15 number_16 hc) (cwV 2 hts gX9_letterLine_X9_takes rfl rfl rfl (by decide +kernel) ⟨Nat.le_of_ble_eq_true rfl, Nat.le_of_ble_eq_true rfl⟩) [0, 2] [1, 3, 4] [3, 0, 4, 1, 2] (by exact ⟨rfl, rfl, by decide, rfl⟩) 0 9 rfl rfl rfl rfl hl.1 rfl (Nat.le_of_ble_eq_true rfl) dX9_letterLine_37 ⟨Nat.le_refl _, Nat.le_refl _⟩ (fun H locs hz hP hD hS => ?_)
      have hz_17 := hz
      refine lv_if_ne (tgt := 45) hx hb dX9_letterLine_40 (by decide) (fun hc => ?_) (fun hc => ?_)
      · have hf := o_f hc hf
        refine lv_aload_n hx hb dX9_letterLine_45 rfl (lv_at hl 0 rfl) ?_
        refine va_get (D := D) (ci := 9) (v := .ref a18) (C := RX9) (T := TX9) (N := 45) hx hb hts in_X9 hown hK hP 0 rfl rfl 18 (by decide) lk_65 (fun _ h9 => h9) rfl dX9_letterLine_46 ?_
        refine lv_iload_n hx hb dX9_letterLine_49 rfl (lv_at hl 1 rfl) ?_
        refine lv_aload_n hx hb dX9_letterLine_50 rfl (lv_at hl 0 rfl) ?_
        refine va_get (D := D) (ci := 9) (v := .int number_16) (C := RX9) (T := TX9) (N := 45) hx hb hts in_X9 hown hK hP 0 rfl rfl 35 (by decide) lk_159 (fun _ h9 => h9) rfl dX9_letterLine_51 ?_
        obtain ⟨hi, hf⟩ := gIx_some hf
        refine va_iast hx hb hK hP hD hS 3 1 rfl rfl hi dX9_letterLine_54 (fun H locs hP hD hS => ?_)
        have hP : va_P D vwCl (w_X9_letterLine kc a0 a1 a2 a3 a4 a5 a6 a7 a8 a9 a10 a11 a12 a13 a14 a15 a16 a17 a18 a19 a20 a21 a22 a23 a24 a25 a26 a27 a28 thrown loftSize startWind seed draftLoft draftStart draftSeed length textSize start_10 next__11 token_12 value_13 error_14 errorAt_15 number_16 undos letters text (upd weight (y1_27 : Int32).toNatClampNeg number_16) priority) H := hP
        have hD : va_D A (w_X9_letterLine kc a0 a1 a2 a3 a4 a5 a6 a7 a8 a9 a10 a11 a12 a13 a14 a15 a16 a17 a18 a19 a20 a21 a22 a23 a24 a25 a26 a27 a28 thrown loftSize startWind seed draftLoft draftStart draftSeed length textSize start_10 next__11 token_12 value_13 error_14 errorAt_15 number_16 undos letters text (upd weight (y1_27 : Int32).toNatClampNeg number_16) priority) := hD
        refine lv_aload_n hx hb dX9_letterLine_55 rfl (lv_at hl 0 rfl) ?_
        refine lv_iconst (v := 1) hx hb dX9_letterLine_56 (by decide) ?_
        refine lv_bipush (v := 9) hx hb dX9_letterLine_57 (by decide) ?_
        obtain ⟨r_18, start_19, next__20, token_21, value_22, error_23, errorAt_24, number_25, hc, hf⟩ := ob8_some hf
        refine g_VZ (As := [.int 1, .int 9]) (rest := []) (ws' := (w_X9_letterLine kc a0 a1 a2 a3 a4 a5 a6 a7 a8 a9 a10 a11 a12 a13 a14 a15 a16 a17 a18 a19 a20 a21 a22 a23 a24 a25 a26 a27 a28 thrown loftSize startWind seed draftLoft draftStart draftSeed length textSize start_19 next__20 token_21 value_22 error_23 errorAt_24 number_25 undos letters text (upd weight (y1_27 : Int32).toNatClampNeg number_16) priority)) ⟨hx, hb, hml, hown, hts⟩ hN hK hP hD hS hA (c_X9_takes l D kc N a0 a1 a2 a3 a4 a5 a6 a7 a8 a9 a10 a11 a12 a13 a14 a15 a16 a17 a18 a19 a20 a21 a22 a23 a24 a25 a26 a27 a28 thrown loftSize startWind seed draftLoft draftStart draftSeed length textSize start_10 next__11 token_12 value_13 error_14 errorAt_15 number_16 undos text 1 9 r_18 start_19 next__20 token_21 value_22 error_23 errorAt_24 number_25 hc) (cwV 2 hts gX9_letterLine_X9_takes rfl rfl rfl (by decide +kernel) ⟨Nat.le_of_ble_eq_true rfl, Nat.le_of_ble_eq_true rfl⟩) [0, 2] [1, 3, 4] [3, 0, 4, 1, 2] (by exact ⟨rfl, rfl, by decide, rfl⟩) 0 9 rfl rfl rfl rfl hl.1 rfl (Nat.le_of_ble_eq_true rfl) dX9_letterLine_59 ⟨Nat.le_refl _, Nat.le_refl _⟩ (fun H locs hz hP hD hS => ?_)
        have hz_26 := hz
        refine lv_if_ne (tgt := 67) hx hb dX9_letterLine_62 (by decide) (fun hc => ?_) (fun hc => ?_)
        · have hf := o_f hc hf
          refine lv_aload_n hx hb dX9_letterLine_67 rfl (lv_at hl 0 rfl) ?_
          refine va_get (D := D) (ci := 9) (v := .ref a19) (C := RX9) (T := TX9) (N := 45) hx hb hts in_X9 hown hK hP 0 rfl rfl 19 (by decide) lk_68 (fun _ h9 => h9) rfl dX9_letterLine_68 ?_
          refine lv_iload_n hx hb dX9_letterLine_71 rfl (lv_at hl 1 rfl) ?_
          refine lv_aload_n hx hb dX9_letterLine_72 rfl (lv_at hl 0 rfl) ?_
          refine va_get (D := D) (ci := 9) (v := .int number_25) (C := RX9) (T := TX9) (N := 45) hx hb hts in_X9 hown hK hP 0 rfl rfl 35 (by decide) lk_159 (fun _ h9 => h9) rfl dX9_letterLine_73 ?_
          obtain ⟨hi, hf⟩ := gIx_some hf
          refine va_iast hx hb hK hP hD hS 4 1 rfl rfl hi dX9_letterLine_76 (fun H locs hP hD hS => ?_)
          have hP : va_P D vwCl (w_X9_letterLine kc a0 a1 a2 a3 a4 a5 a6 a7 a8 a9 a10 a11 a12 a13 a14 a15 a16 a17 a18 a19 a20 a21 a22 a23 a24 a25 a26 a27 a28 thrown loftSize startWind seed draftLoft draftStart draftSeed length textSize start_19 next__20 token_21 value_22 error_23 errorAt_24 number_25 undos letters text (upd weight (y1_27 : Int32).toNatClampNeg number_16) (upd priority (y1_27 : Int32).toNatClampNeg number_25)) H := hP
          have hD : va_D A (w_X9_letterLine kc a0 a1 a2 a3 a4 a5 a6 a7 a8 a9 a10 a11 a12 a13 a14 a15 a16 a17 a18 a19 a20 a21 a22 a23 a24 a25 a26 a27 a28 thrown loftSize startWind seed draftLoft draftStart draftSeed length textSize start_19 next__20 token_21 value_22 error_23 errorAt_24 number_25 undos letters text (upd weight (y1_27 : Int32).toNatClampNeg number_16) (upd priority (y1_27 : Int32).toNatClampNeg number_25)) := hD
          refine lv_aload_n hx hb dX9_letterLine_77 rfl (lv_at hl 0 rfl) ?_
          refine va_get (D := D) (ci := 9) (v := .ref a17) (C := RX9) (T := TX9) (N := 45) hx hb hts in_X9 hown hK hP 0 rfl rfl 17 (by decide) lk_62 (fun _ h9 => h9) rfl dX9_letterLine_78 ?_
          refine lv_iconst (v := 1) hx hb dX9_letterLine_81 (by decide) ?_
          refine lv_dup2_11 hx hb dX9_letterLine_82 rfl rfl ?_
          obtain ⟨hi, hf⟩ := gIx_some hf
          refine va_iald hx hb hK hP 1 1 rfl rfl hi dX9_letterLine_83 ?_
          refine lv_iconst (v := 1) hx hb dX9_letterLine_84 (by decide) ?_
          refine lv_iadd hx hb dX9_letterLine_85 ?_
          obtain ⟨hi, hf⟩ := gIx_some hf
          refine va_iast hx hb hK hP hD hS 1 1 rfl rfl hi dX9_letterLine_86 (fun H locs hP hD hS => ?_)
          have hP : va_P D vwCl (w_X9_letterLine kc a0 a1 a2 a3 a4 a5 a6 a7 a8 a9 a10 a11 a12 a13 a14 a15 a16 a17 a18 a19 a20 a21 a22 a23 a24 a25 a26 a27 a28 thrown loftSize startWind seed draftLoft draftStart draftSeed length textSize start_19 next__20 token_21 value_22 error_23 errorAt_24 number_25 undos (upd letters (1 : Int32).toNatClampNeg ((letters (1 : Int32).toNatClampNeg) + 1)) text (upd weight (y1_27 : Int32).toNatClampNeg number_16) (upd priority (y1_27 : Int32).toNatClampNeg number_25)) H := hP
          have hD : va_D A (w_X9_letterLine kc a0 a1 a2 a3 a4 a5 a6 a7 a8 a9 a10 a11 a12 a13 a14 a15 a16 a17 a18 a19 a20 a21 a22 a23 a24 a25 a26 a27 a28 thrown loftSize startWind seed draftLoft draftStart draftSeed length textSize start_19 next__20 token_21 value_22 error_23 errorAt_24 number_25 undos (upd letters (1 : Int32).toNatClampNeg ((letters (1 : Int32).toNatClampNeg) + 1)) text (upd weight (y1_27 : Int32).toNatClampNeg number_16) (upd priority (y1_27 : Int32).toNatClampNeg number_25)) := hD
          refine lv_iconst (v := 1) hx hb dX9_letterLine_87 (by decide) ?_
          cases hf
          exact kR _ _ _ _ (Or.inr rfl) hP hD hS dX9_letterLine_88
        · have hf := o_t hc hf
          refine lv_iconst (v := 0) hx hb dX9_letterLine_65 (by decide) ?_
          cases hf
          exact kR _ _ _ _ (Or.inl rfl) hP hD hS dX9_letterLine_66
      · have hf := o_t hc hf
        refine lv_iconst (v := 0) hx hb dX9_letterLine_43 (by decide) ?_
        cases hf
        exact kR _ _ _ _ (Or.inl rfl) hP hD hS dX9_letterLine_44
  unfold f_X9_letterLine at hf
  refine lv_bipush (v := 24) hx hb dX9_letterLine_0 (by decide) ?_
  refine lv_aload_n hx hb dX9_letterLine_2 rfl (lv_at hl 0 rfl) ?_
  refine va_get (D := D) (ci := 9) (v := .ref a17) (C := RX9) (T := TX9) (N := 45) hx hb hts in_X9 hown hK hP 0 rfl rfl 17 (by decide) lk_62 (fun _ h9 => h9) rfl dX9_letterLine_3 ?_
  refine lv_iconst (v := 1) hx hb dX9_letterLine_6 (by decide) ?_
  obtain ⟨hi, hf⟩ := gIx_some hf
  refine va_iald hx hb hK hP 1 1 rfl rfl hi dX9_letterLine_7 ?_
  refine lv_iadd hx hb dX9_letterLine_8 ?_
  refine lv_istore_n (lv' := [(1, .int (24 + (letters (1 : Int32).toNatClampNeg))), (0, .ref a0)]) hx hb dX9_letterLine_9 rfl hl (by decide) rfl (fun ls hl => ?_)
  refine lv_aload_n hx hb dX9_letterLine_10 rfl (lv_at hl 1 rfl) ?_
  refine lv_aload_n hx hb dX9_letterLine_11 rfl (lv_at hl 1 rfl) ?_
  refine va_get (D := D) (ci := 9) (v := .ref a17) (C := RX9) (T := TX9) (N := 45) hx hb hts in_X9 hown hK hP 0 rfl rfl 17 (by decide) lk_62 (fun _ h9 => h9) rfl dX9_letterLine_12 ?_
  refine lv_iconst (v := 1) hx hb dX9_letterLine_15 (by decide) ?_
  obtain ⟨hi, hf⟩ := gIx_some hf
  refine va_iald hx hb hK hP 1 1 rfl rfl hi dX9_letterLine_16 ?_
  refine lv_bipush (v := 24) hx hb dX9_letterLine_17 (by decide) ?_
  refine lv_icmp_ge (tgt := 26) hx hb dX9_letterLine_19 (by decide) (fun hc => ?_) (fun hc => ?_)
  · have hf := o_t hc hf
    refine lv_iconst (v := 0) hx hb dX9_letterLine_26 (by decide) ?_
    exact J27 _ _ hf _ _ _ hP hD hS (lv_sub hl [1, 0] rfl)
  · have hf := o_f hc hf
    refine lv_iconst (v := 1) hx hb dX9_letterLine_22 (by decide) ?_
    refine lv_goto (tgt := 27) hx hb dX9_letterLine_23 (by decide) ?_
    exact J27 _ _ hf _ _ _ hP hD hS (lv_sub hl [1, 0] rfl)
