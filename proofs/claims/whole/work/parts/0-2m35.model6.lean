abbrev w_X9_sumOf (kc : Nat → ClassId) (a0 a1 a2 a3 a4 a5 a6 a7 a8 a9 a10 a11 a12 a13 a14 a15 a16 a17 a18 a19 a20 a21 a22 a23 a24 a25 a26 a27 a28 a29 : Nat) (n_y2 : Nat) (thrown : Int32) (loftSize : Int32) (startWind : Int32) (seed : Int32) (draftLoft : Int32) (draftStart : Int32) (draftSeed : Int32) (length : Int32) (textSize : Int32) (start : Int32) (next_ : Int32) (token : Int32) (value : Int32) (error : Int32) (errorAt : Int32) (number : Int32) (undos : Int32) (letters : Nat → Int32) (y2 : Nat → Int32) : va_W := [(a0, .inr (9, [.int thrown, .ref a1, .ref a2, .ref a3, .ref a4, .ref a5, .ref a6, .ref a7, .ref a8, .ref a9, .ref a10, .ref a11, .ref a12, .ref a13, .ref a14, .ref a15, .ref a16, .ref a17, .ref a18, .ref a19, .int loftSize, .int startWind, .int seed, .int draftLoft, .int draftStart, .int draftSeed, .ref a20, .int length, .int textSize, .int start, .int next_, .int token, .int value, .int error, .int errorAt, .int number, .ref a21, .ref a22, .ref a23, .ref a24, .ref a25, .int undos, .ref a26, .ref a27, .ref a28])), (a17, .inl (kc 1, 2, .inl letters)), (a29, .inl (kc 1, n_y2, .inl y2))]
set_option maxHeartbeats 4000000 in
set_option maxRecDepth 100000 in
theorem c_X9_sumOf (l : Launch) (D : va_G) (kc : Nat → ClassId) (N : Nat) (a0 a1 a2 a3 a4 a5 a6 a7 a8 a9 a10 a11 a12 a13 a14 a15 a16 a17 a18 a19 a20 a21 a22 a23 a24 a25 a26 a27 a28 a29 : Nat) (n_y2 : Nat) (thrown : Int32) (loftSize : Int32) (startWind : Int32) (seed : Int32) (draftLoft : Int32) (draftStart : Int32) (draftSeed : Int32) (length : Int32) (textSize : Int32) (start : Int32) (next_ : Int32) (token : Int32) (value : Int32) (error : Int32) (errorAt : Int32) (number : Int32) (undos : Int32) (letters : Nat → Int32) (y2 : Nat → Int32) (x1 : Int32) (r_ : Int32) (hf : f_X9_sumOf N n_y2 letters y2 x1 = some r_) : MI l yX9_sumOf wsX9_sumOf ({ frames := 1, cells := 0, slots := 0, locals := 21 }) D kc [.ref a0, .int x1, .ref a29] (w_X9_sumOf kc a0 a1 a2 a3 a4 a5 a6 a7 a8 a9 a10 a11 a12 a13 a14 a15 a16 a17 a18 a19 a20 a21 a22 a23 a24 a25 a26 a27 a28 a29 n_y2 thrown loftSize startWind seed draftLoft draftStart draftSeed length textSize start next_ token value error errorAt number undos letters y2) (w_X9_sumOf kc a0 a1 a2 a3 a4 a5 a6 a7 a8 a9 a10 a11 a12 a13 a14 a15 a16 a17 a18 a19 a20 a21 a22 a23 a24 a25 a26 a27 a28 a29 n_y2 thrown loftSize startWind seed draftLoft draftStart draftSeed length textSize start next_ token value error errorAt number undos letters y2) r_ := by
  refine gM_I (cc := cX9_sumOf) (maxL := 5) (by decide) rfl (Nat.le_of_ble_eq_true rfl) ?_
  intro p e s m below meth c A ls Q hx hb hml hown hts hN hK hP hD hA hl kR
  have hS : va_S A s.heap s.heap [] := va_S.rf
  have hl : lv_has ls 5 [(0, .ref a0), (1, .int x1), (2, .ref a29)] := hl
  have in_X9 : ∀ w ∈ u_ws RX9 TX9 45, w ∈ wsX9_sumOf := by decide +kernel
  have lk_62 := hts (.fieldLink RX9 62 "BalloonMailModel" "letters" "[I") (by decide +kernel)
  unfold f_X9_sumOf at hf
  refine lv_iconst (v := 0) hx hb dX9_sumOf_0 (by decide) ?_
  refine lv_istore_n (lv' := [(3, .int 0), (0, .ref a0), (1, .int x1), (2, .ref a29)]) hx hb dX9_sumOf_1 rfl hl (by decide) rfl (fun ls hl => ?_)
  refine lv_iconst (v := 0) hx hb dX9_sumOf_2 (by decide) ?_
  refine lv_istore (lv' := [(4, .int 0), (3, .int 0), (0, .ref a0), (1, .int x1), (2, .ref a29)]) hx hb dX9_sumOf_3 hl (by decide) rfl (fun ls hl => ?_)
  have L5 : ∀ (n : Nat) (y4_5 : Int32) (y3_5 : Int32) (y4_5o : Int32) (y3_5o : Int32), f_X9_sumOf_5 N letters y2 x1 n_y2 n y4_5 y3_5 = some (y4_5o, y3_5o) → (∀ (H : Heap) (locs : List Loc) (ls : Array Slot), va_P D vwCl (w_X9_sumOf kc a0 a1 a2 a3 a4 a5 a6 a7 a8 a9 a10 a11 a12 a13 a14 a15 a16 a17 a18 a19 a20 a21 a22 a23 a24 a25 a26 a27 a28 a29 n_y2 thrown loftSize startWind seed draftLoft draftStart draftSeed length textSize start next_ token value error errorAt number undos letters y2) H → va_D A (w_X9_sumOf kc a0 a1 a2 a3 a4 a5 a6 a7 a8 a9 a10 a11 a12 a13 a14 a15 a16 a17 a18 a19 a20 a21 a22 a23 a24 a25 a26 a27 a28 a29 n_y2 thrown loftSize startWind seed draftLoft draftStart draftSeed length textSize start next_ token value error errorAt number undos letters y2) → va_S A s.heap H locs → lv_has ls 5 [(0, .ref a0), (1, .int x1), (2, .ref a29), (3, .int y3_5o), (4, .int y4_5o)] → W p l e ({ frames := 1, cells := 0, slots := 0, locals := 21 }) s m (([.ref a0, .int x1, .ref a29] : List Value).toArray) below meth c H locs 0 0 Q (F0 m 42 ls [])) → ∀ (H : Heap) (locs : List Loc) (ls : Array Slot), va_P D vwCl (w_X9_sumOf kc a0 a1 a2 a3 a4 a5 a6 a7 a8 a9 a10 a11 a12 a13 a14 a15 a16 a17 a18 a19 a20 a21 a22 a23 a24 a25 a26 a27 a28 a29 n_y2 thrown loftSize startWind seed draftLoft draftStart draftSeed length textSize start next_ token value error errorAt number undos letters y2) H → va_D A (w_X9_sumOf kc a0 a1 a2 a3 a4 a5 a6 a7 a8 a9 a10 a11 a12 a13 a14 a15 a16 a17 a18 a19 a20 a21 a22 a23 a24 a25 a26 a27 a28 a29 n_y2 thrown loftSize startWind seed draftLoft draftStart draftSeed length textSize start next_ token value error errorAt number undos letters y2) → va_S A s.heap H locs → lv_has ls 5 [(0, .ref a0), (1, .int x1), (2, .ref a29), (3, .int y3_5), (4, .int y4_5)] → W p l e ({ frames := 1, cells := 0, slots := 0, locals := 21 }) s m (([.ref a0, .int x1, .ref a29] : List Value).toArray) below meth c H locs 0 0 Q (F0 m 5 ls []) := by
    intro n
    induction n with
    | zero => intro _ _ _ _ hf; rw [f_X9_sumOf_5.eq_1] at hf; cases hf
    | succ n ih =>
      intro y4_5 y3_5 y4_5o y3_5o hf hk H locs ls hP hD hS hl
      rw [f_X9_sumOf_5.eq_2] at hf
      refine lv_iload hx hb dX9_sumOf_5 (lv_at hl 4 rfl) ?_
      refine lv_aload_n hx hb dX9_sumOf_7 rfl (lv_at hl 0 rfl) ?_
      refine va_get (D := D) (ci := 9) (v := .ref a17) (C := RX9) (T := TX9) (N := 45) hx hb hts in_X9 hown hK hP 0 rfl rfl 17 (by decide) lk_62 (fun _ h9 => h9) rfl dX9_sumOf_8 ?_
      refine lv_iconst (v := 0) hx hb dX9_sumOf_11 (by decide) ?_
      obtain ⟨hi, hf⟩ := gIx_some hf
      refine va_iald hx hb hK hP 1 1 rfl rfl hi dX9_sumOf_12 ?_
      refine lv_icmp_ge (tgt := 42) hx hb dX9_sumOf_13 (by decide) (fun hc => ?_) (fun hc => ?_)
      · have hf := o_t hc hf
        cases hf
        exact hk _ _ _ hP hD hS (lv_sub hl [0, 1, 2, 3, 4] rfl)
      · have hf := o_f hc hf
        refine lv_iload_n hx hb dX9_sumOf_16 rfl (lv_at hl 3 rfl) ?_
        refine lv_iload_n hx hb dX9_sumOf_17 rfl (lv_at hl 1 rfl) ?_
        refine lv_iload hx hb dX9_sumOf_18 (lv_at hl 4 rfl) ?_
        obtain ⟨r_1, hc, hf⟩ := ob1_some hf
        refine g_SZ (As := [.int x1, .int y4_5]) (rest := [.int y3_5]) (ws' := (w_X9_sumOf kc a0 a1 a2 a3 a4 a5 a6 a7 a8 a9 a10 a11 a12 a13 a14 a15 a16 a17 a18 a19 a20 a21 a22 a23 a24 a25 a26 a27 a28 a29 n_y2 thrown loftSize startWind seed draftLoft draftStart draftSeed length textSize start next_ token value error errorAt number undos letters y2)) ⟨hx, hb, hml, hown, hts⟩ hN hK hP hD hS hA (c_X9_has l D kc N x1 y4_5 r_1 hc) (va_cwS 2 hts gX9_sumOf_X9_has rfl rfl rfl (by decide +kernel) ⟨Nat.le_of_ble_eq_true rfl, Nat.le_of_ble_eq_true rfl⟩) [] [0, 1, 2] [0, 1, 2] (by exact ⟨rfl, rfl, by decide, rfl⟩) rfl hl.1 rfl (Nat.le_of_ble_eq_true rfl) dX9_sumOf_20 ⟨Nat.le_refl _, Nat.le_refl _⟩ (fun H locs hz hP hD hS => ?_)
        have hz_2 := hz
        refine lv_if_eq (tgt := 33) hx hb dX9_sumOf_23 (by decide) (fun hc => ?_) (fun hc => ?_)
        · have hf := o_t hc hf
          refine lv_iconst (v := 0) hx hb dX9_sumOf_33 (by decide) ?_
          refine lv_iadd hx hb dX9_sumOf_34 ?_
          refine lv_istore_n (lv' := [(3, .int (y3_5 + 0)), (0, .ref a0), (1, .int x1), (2, .ref a29), (4, .int y4_5)]) hx hb dX9_sumOf_35 rfl hl (by decide) rfl (fun ls hl => ?_)
          refine lv_iinc (v := (y4_5 + 1)) (lv' := [(4, .int (y4_5 + 1)), (3, .int (y3_5 + 0)), (0, .ref a0), (1, .int x1), (2, .ref a29)]) hx hb dX9_sumOf_36 hl (k := 4) rfl (by rfl) (by decide) rfl (fun ls hl => ?_)
          refine lv_goto (tgt := 5) hx hb dX9_sumOf_39 (by decide) ?_
          exact ih _ _ _ _ hf hk _ _ _ hP hD hS (lv_sub hl [2, 3, 4, 1, 0] rfl)
        · have hf := o_f hc hf
          refine lv_aload_n hx hb dX9_sumOf_26 rfl (lv_at hl 2 rfl) ?_
          refine lv_iload hx hb dX9_sumOf_27 (lv_at hl 4 rfl) ?_
          obtain ⟨hi, hf⟩ := gIx_some hf
          refine va_iald hx hb hK hP 2 1 rfl rfl hi dX9_sumOf_29 ?_
          refine lv_goto (tgt := 34) hx hb dX9_sumOf_30 (by decide) ?_
          refine lv_iadd hx hb dX9_sumOf_34 ?_
          refine lv_istore_n (lv' := [(3, .int (y3_5 + (y2 (y4_5 : Int32).toNatClampNeg))), (0, .ref a0), (1, .int x1), (2, .ref a29), (4, .int y4_5)]) hx hb dX9_sumOf_35 rfl hl (by decide) rfl (fun ls hl => ?_)
          refine lv_iinc (v := (y4_5 + 1)) (lv' := [(4, .int (y4_5 + 1)), (3, .int (y3_5 + (y2 (y4_5 : Int32).toNatClampNeg))), (0, .ref a0), (1, .int x1), (2, .ref a29)]) hx hb dX9_sumOf_36 hl (k := 4) rfl (by rfl) (by decide) rfl (fun ls hl => ?_)
          refine lv_goto (tgt := 5) hx hb dX9_sumOf_39 (by decide) ?_
          exact ih _ _ _ _ hf hk _ _ _ hP hD hS (lv_sub hl [2, 3, 4, 1, 0] rfl)
  obtain ⟨y4_5o, y3_5o, hc, hf⟩ := ob2_some hf
  refine L5 N _ _ _ _ hc (fun H locs ls hP hD hS hl => ?_) _ _ _ hP hD hS (lv_sub hl [2, 3, 4, 1, 0] rfl)
  refine lv_iload_n hx hb dX9_sumOf_42 rfl (lv_at hl 3 rfl) ?_
  cases hf
  exact kR _ _ _ _ hP hD hS dX9_sumOf_43
abbrev w_X9_weightOf (kc : Nat → ClassId) (a0 a1 a2 a3 a4 a5 a6 a7 a8 a9 a10 a11 a12 a13 a14 a15 a16 a17 a18 a19 a20 a21 a22 a23 a24 a25 a26 a27 a28 : Nat) (thrown : Int32) (loftSize : Int32) (startWind : Int32) (seed : Int32) (draftLoft : Int32) (draftStart : Int32) (draftSeed : Int32) (length : Int32) (textSize : Int32) (start : Int32) (next_ : Int32) (token : Int32) (value : Int32) (error : Int32) (errorAt : Int32) (number : Int32) (undos : Int32) (letters : Nat → Int32) (weight : Nat → Int32) : va_W := [(a0, .inr (9, [.int thrown, .ref a1, .ref a2, .ref a3, .ref a4, .ref a5, .ref a6, .ref a7, .ref a8, .ref a9, .ref a10, .ref a11, .ref a12, .ref a13, .ref a14, .ref a15, .ref a16, .ref a17, .ref a18, .ref a19, .int loftSize, .int startWind, .int seed, .int draftLoft, .int draftStart, .int draftSeed, .ref a20, .int length, .int textSize, .int start, .int next_, .int token, .int value, .int error, .int errorAt, .int number, .ref a21, .ref a22, .ref a23, .ref a24, .ref a25, .int undos, .ref a26, .ref a27, .ref a28])), (a17, .inl (kc 1, 2, .inl letters)), (a18, .inl (kc 1, 48, .inl weight))]
set_option maxHeartbeats 4000000 in
set_option maxRecDepth 100000 in
theorem c_X9_weightOf (l : Launch) (D : va_G) (kc : Nat → ClassId) (N : Nat) (a0 a1 a2 a3 a4 a5 a6 a7 a8 a9 a10 a11 a12 a13 a14 a15 a16 a17 a18 a19 a20 a21 a22 a23 a24 a25 a26 a27 a28 : Nat) (thrown : Int32) (loftSize : Int32) (startWind : Int32) (seed : Int32) (draftLoft : Int32) (draftStart : Int32) (draftSeed : Int32) (length : Int32) (textSize : Int32) (start : Int32) (next_ : Int32) (token : Int32) (value : Int32) (error : Int32) (errorAt : Int32) (number : Int32) (undos : Int32) (letters : Nat → Int32) (weight : Nat → Int32) (x1 : Int32) (r_ : Int32) (thrown' : Int32) (hf : f_X9_weightOf N letters weight x1 = some (r_, thrown')) : MI l yX9_weightOf wsX9_weightOf ({ frames := 2, cells := 0, slots := 0, locals := 45 }) D kc [.ref a0, .int x1] (w_X9_weightOf kc a0 a1 a2 a3 a4 a5 a6 a7 a8 a9 a10 a11 a12 a13 a14 a15 a16 a17 a18 a19 a20 a21 a22 a23 a24 a25 a26 a27 a28 thrown loftSize startWind seed draftLoft draftStart draftSeed length textSize start next_ token value error errorAt number undos letters weight) (w_X9_weightOf kc a0 a1 a2 a3 a4 a5 a6 a7 a8 a9 a10 a11 a12 a13 a14 a15 a16 a17 a18 a19 a20 a21 a22 a23 a24 a25 a26 a27 a28 thrown' loftSize startWind seed draftLoft draftStart draftSeed length textSize start next_ token value error errorAt number undos letters weight) r_ := by
  refine gM_I (cc := cX9_weightOf) (maxL := 2) (by decide) rfl (Nat.le_of_ble_eq_true rfl) ?_
  intro p e s m below meth c A ls Q hx hb hml hown hts hN hK hP hD hA hl kR
  have hS : va_S A s.heap s.heap [] := va_S.rf
  have hl : lv_has ls 2 [(0, .ref a0), (1, .int x1)] := hl
  have in_X9 : ∀ w ∈ u_ws RX9 TX9 45, w ∈ wsX9_weightOf := by decide +kernel
  have lk_1 := hts (.fieldLink RX9 1 "BalloonMailModel" "thrown" "I") (by decide +kernel)
  have lk_65 := hts (.fieldLink RX9 65 "BalloonMailModel" "weight" "[I") (by decide +kernel)
  unfold f_X9_weightOf at hf
  refine lv_aload_n hx hb dX9_weightOf_0 rfl (lv_at hl 0 rfl) ?_
  refine lv_iconst (v := 0) hx hb dX9_weightOf_1 (by decide) ?_
  refine va_put (D := D) (ci := 9) (v := .int 0) (ty := .int) (C := RX9) (T := TX9) (N := 45) hx hb hts in_X9 tyX9 tyX9_ok nmX9 hown hK hP hD hS 0 rfl rfl 0 (by decide) lk_1 (fun _ h9 => h9) rfl (by decide +kernel) rfl rfl (Nat.le_of_ble_eq_true rfl) dX9_weightOf_2 (fun H locs hP hD hS => ?_)
  have hP : va_P D vwCl (w_X9_weightOf kc a0 a1 a2 a3 a4 a5 a6 a7 a8 a9 a10 a11 a12 a13 a14 a15 a16 a17 a18 a19 a20 a21 a22 a23 a24 a25 a26 a27 a28 0 loftSize startWind seed draftLoft draftStart draftSeed length textSize start next_ token value error errorAt number undos letters weight) H := hP
  have hD : va_D A (w_X9_weightOf kc a0 a1 a2 a3 a4 a5 a6 a7 a8 a9 a10 a11 a12 a13 a14 a15 a16 a17 a18 a19 a20 a21 a22 a23 a24 a25 a26 a27 a28 0 loftSize startWind seed draftLoft draftStart draftSeed length textSize start next_ token value error errorAt number undos letters weight) := hD
  refine lv_aload_n hx hb dX9_weightOf_5 rfl (lv_at hl 0 rfl) ?_
  refine lv_iload_n hx hb dX9_weightOf_6 rfl (lv_at hl 1 rfl) ?_
  obtain ⟨r_1, hc, hf⟩ := ob1_some hf
  refine g_VZ (As := [.int x1]) (rest := []) (ws' := (w_X9_weightOf kc a0 a1 a2 a3 a4 a5 a6 a7 a8 a9 a10 a11 a12 a13 a14 a15 a16 a17 a18 a19 a20 a21 a22 a23 a24 a25 a26 a27 a28 0 loftSize startWind seed draftLoft draftStart draftSeed length textSize start next_ token value error errorAt number undos letters weight)) ⟨hx, hb, hml, hown, hts⟩ hN hK hP hD hS hA (c_X9_areLetters l D kc N a0 a1 a2 a3 a4 a5 a6 a7 a8 a9 a10 a11 a12 a13 a14 a15 a16 a17 a18 a19 a20 a21 a22 a23 a24 a25 a26 a27 a28 0 loftSize startWind seed draftLoft draftStart draftSeed length textSize start next_ token value error errorAt number undos letters x1 r_1 hc) (cwV 1 hts gX9_weightOf_X9_areLetters rfl rfl rfl (by decide +kernel) ⟨Nat.le_of_ble_eq_true rfl, Nat.le_of_ble_eq_true rfl⟩) [0, 1] [2] [1, 2, 0] (by exact ⟨rfl, rfl, by decide, rfl⟩) 0 9 rfl rfl rfl rfl hl.1 rfl (Nat.le_of_ble_eq_true rfl) dX9_weightOf_7 ⟨Nat.le_refl _, Nat.le_refl _⟩ (fun H locs hz hP hD hS => ?_)
  have hz_2 := hz
  refine lv_if_eq (tgt := 25) hx hb dX9_weightOf_10 (by decide) (fun hc => ?_) (fun hc => ?_)
  · have hf := o_t hc hf
    refine lv_iconst (v := (-1)) hx hb dX9_weightOf_25 (by decide) ?_
    cases hf
    exact kR _ _ _ _ hP hD hS dX9_weightOf_26
  · have hf := o_f hc hf
    refine lv_aload_n hx hb dX9_weightOf_13 rfl (lv_at hl 0 rfl) ?_
    refine lv_iload_n hx hb dX9_weightOf_14 rfl (lv_at hl 1 rfl) ?_
    refine lv_aload_n hx hb dX9_weightOf_15 rfl (lv_at hl 0 rfl) ?_
    refine va_get (D := D) (ci := 9) (v := .ref a18) (C := RX9) (T := TX9) (N := 45) hx hb hts in_X9 hown hK hP 0 rfl rfl 18 (by decide) lk_65 (fun _ h9 => h9) rfl dX9_weightOf_16 ?_
    obtain ⟨r_3, hc, hf⟩ := ob1_some hf
    refine g_VI (As := [.int x1, .ref a18]) (rest := []) (ws' := (w_X9_weightOf kc a0 a1 a2 a3 a4 a5 a6 a7 a8 a9 a10 a11 a12 a13 a14 a15 a16 a17 a18 a19 a20 a21 a22 a23 a24 a25 a26 a27 a28 0 loftSize startWind seed draftLoft draftStart draftSeed length textSize start next_ token value error errorAt number undos letters weight)) ⟨hx, hb, hml, hown, hts⟩ hN hK hP hD hS hA (c_X9_sumOf l D kc N a0 a1 a2 a3 a4 a5 a6 a7 a8 a9 a10 a11 a12 a13 a14 a15 a16 a17 a18 a19 a20 a21 a22 a23 a24 a25 a26 a27 a28 a18 48 0 loftSize startWind seed draftLoft draftStart draftSeed length textSize start next_ token value error errorAt number undos letters weight x1 r_3 hc) (cwV 2 hts gX9_weightOf_X9_sumOf rfl rfl rfl (by decide +kernel) ⟨Nat.le_of_ble_eq_true rfl, Nat.le_of_ble_eq_true rfl⟩) [0, 1, 2] [] [0, 1, 2] (by exact ⟨rfl, rfl, by decide, rfl⟩) 0 9 rfl rfl rfl rfl hl.1 rfl (Nat.le_of_ble_eq_true rfl) dX9_weightOf_19 ⟨Nat.le_refl _, Nat.le_refl _⟩ (fun H locs hP hD hS => ?_)
    refine lv_goto (tgt := 26) hx hb dX9_weightOf_22 (by decide) ?_
    cases hf
    exact kR _ _ _ _ hP hD hS dX9_weightOf_26
abbrev w_X9_priorityOf (kc : Nat → ClassId) (a0 a1 a2 a3 a4 a5 a6 a7 a8 a9 a10 a11 a12 a13 a14 a15 a16 a17 a18 a19 a20 a21 a22 a23 a24 a25 a26 a27 a28 : Nat) (thrown : Int32) (loftSize : Int32) (startWind : Int32) (seed : Int32) (draftLoft : Int32) (draftStart : Int32) (draftSeed : Int32) (length : Int32) (textSize : Int32) (start : Int32) (next_ : Int32) (token : Int32) (value : Int32) (error : Int32) (errorAt : Int32) (number : Int32) (undos : Int32) (letters : Nat → Int32) (priority : Nat → Int32) : va_W := [(a0, .inr (9, [.int thrown, .ref a1, .ref a2, .ref a3, .ref a4, .ref a5, .ref a6, .ref a7, .ref a8, .ref a9, .ref a10, .ref a11, .ref a12, .ref a13, .ref a14, .ref a15, .ref a16, .ref a17, .ref a18, .ref a19, .int loftSize, .int startWind, .int seed, .int draftLoft, .int draftStart, .int draftSeed, .ref a20, .int length, .int textSize, .int start, .int next_, .int token, .int value, .int error, .int errorAt, .int number, .ref a21, .ref a22, .ref a23, .ref a24, .ref a25, .int undos, .ref a26, .ref a27, .ref a28])), (a17, .inl (kc 1, 2, .inl letters)), (a19, .inl (kc 1, 48, .inl priority))]
set_option maxHeartbeats 4000000 in
set_option maxRecDepth 100000 in
theorem c_X9_priorityOf (l : Launch) (D : va_G) (kc : Nat → ClassId) (N : Nat) (a0 a1 a2 a3 a4 a5 a6 a7 a8 a9 a10 a11 a12 a13 a14 a15 a16 a17 a18 a19 a20 a21 a22 a23 a24 a25 a26 a27 a28 : Nat) (thrown : Int32) (loftSize : Int32) (startWind : Int32) (seed : Int32) (draftLoft : Int32) (draftStart : Int32) (draftSeed : Int32) (length : Int32) (textSize : Int32) (start : Int32) (next_ : Int32) (token : Int32) (value : Int32) (error : Int32) (errorAt : Int32) (number : Int32) (undos : Int32) (letters : Nat → Int32) (priority : Nat → Int32) (x1 : Int32) (r_ : Int32) (thrown' : Int32) (hf : f_X9_priorityOf N letters priority x1 = some (r_, thrown')) : MI l yX9_priorityOf wsX9_priorityOf ({ frames := 2, cells := 0, slots := 0, locals := 45 }) D kc [.ref a0, .int x1] (w_X9_priorityOf kc a0 a1 a2 a3 a4 a5 a6 a7 a8 a9 a10 a11 a12 a13 a14 a15 a16 a17 a18 a19 a20 a21 a22 a23 a24 a25 a26 a27 a28 thrown loftSize startWind seed draftLoft draftStart draftSeed length textSize start next_ token value error errorAt number undos letters priority) (w_X9_priorityOf kc a0 a1 a2 a3 a4 a5 a6 a7 a8 a9 a10 a11 a12 a13 a14 a15 a16 a17 a18 a19 a20 a21 a22 a23 a24 a25 a26 a27 a28 thrown' loftSize startWind seed draftLoft draftStart draftSeed length textSize start next_ token value error errorAt number undos letters priority) r_ := by
  refine gM_I (cc := cX9_priorityOf) (maxL := 2) (by decide) rfl (Nat.le_of_ble_eq_true rfl) ?_
  intro p e s m below meth c A ls Q hx hb hml hown hts hN hK hP hD hA hl kR
  have hS : va_S A s.heap s.heap [] := va_S.rf
  have hl : lv_has ls 2 [(0, .ref a0), (1, .int x1)] := hl
  have in_X9 : ∀ w ∈ u_ws RX9 TX9 45, w ∈ wsX9_priorityOf := by decide +kernel
  have lk_1 := hts (.fieldLink RX9 1 "BalloonMailModel" "thrown" "I") (by decide +kernel)
  have lk_68 := hts (.fieldLink RX9 68 "BalloonMailModel" "priority" "[I") (by decide +kernel)
  unfold f_X9_priorityOf at hf
  refine lv_aload_n hx hb dX9_priorityOf_0 rfl (lv_at hl 0 rfl) ?_
  refine lv_iconst (v := 0) hx hb dX9_priorityOf_1 (by decide) ?_
  refine va_put (D := D) (ci := 9) (v := .int 0) (ty := .int) (C := RX9) (T := TX9) (N := 45) hx hb hts in_X9 tyX9 tyX9_ok nmX9 hown hK hP hD hS 0 rfl rfl 0 (by decide) lk_1 (fun _ h9 => h9) rfl (by decide +kernel) rfl rfl (Nat.le_of_ble_eq_true rfl) dX9_priorityOf_2 (fun H locs hP hD hS => ?_)
  have hP : va_P D vwCl (w_X9_priorityOf kc a0 a1 a2 a3 a4 a5 a6 a7 a8 a9 a10 a11 a12 a13 a14 a15 a16 a17 a18 a19 a20 a21 a22 a23 a24 a25 a26 a27 a28 0 loftSize startWind seed draftLoft draftStart draftSeed length textSize start next_ token value error errorAt number undos letters priority) H := hP
  have hD : va_D A (w_X9_priorityOf kc a0 a1 a2 a3 a4 a5 a6 a7 a8 a9 a10 a11 a12 a13 a14 a15 a16 a17 a18 a19 a20 a21 a22 a23 a24 a25 a26 a27 a28 0 loftSize startWind seed draftLoft draftStart draftSeed length textSize start next_ token value error errorAt number undos letters priority) := hD
  refine lv_aload_n hx hb dX9_priorityOf_5 rfl (lv_at hl 0 rfl) ?_
  refine lv_iload_n hx hb dX9_priorityOf_6 rfl (lv_at hl 1 rfl) ?_
  obtain ⟨r_1, hc, hf⟩ := ob1_some hf
  refine g_VZ (As := [.int x1]) (rest := []) (ws' := (w_X9_priorityOf kc a0 a1 a2 a3 a4 a5 a6 a7 a8 a9 a10 a11 a12 a13 a14 a15 a16 a17 a18 a19 a20 a21 a22 a23 a24 a25 a26 a27 a28 0 loftSize startWind seed draftLoft draftStart draftSeed length textSize start next_ token value error errorAt number undos letters priority)) ⟨hx, hb, hml, hown, hts⟩ hN hK hP hD hS hA (c_X9_areLetters l D kc N a0 a1 a2 a3 a4 a5 a6 a7 a8 a9 a10 a11 a12 a13 a14 a15 a16 a17 a18 a19 a20 a21 a22 a23 a24 a25 a26 a27 a28 0 loftSize startWind seed draftLoft draftStart draftSeed length textSize start next_ token value error errorAt number undos letters x1 r_1 hc) (cwV 1 hts gX9_priorityOf_X9_areLetters rfl rfl rfl (by decide +kernel) ⟨Nat.le_of_ble_eq_true rfl, Nat.le_of_ble_eq_true rfl⟩) [0, 1] [2] [1, 2, 0] (by exact ⟨rfl, rfl, by decide, rfl⟩) 0 9 rfl rfl rfl rfl hl.1 rfl (Nat.le_of_ble_eq_true rfl) dX9_priorityOf_7 ⟨Nat.le_refl _, Nat.le_refl _⟩ (fun H locs hz hP hD hS => ?_)
  have hz_2 := hz
  refine lv_if_eq (tgt := 25) hx hb dX9_priorityOf_10 (by decide) (fun hc => ?_) (fun hc => ?_)
  · have hf := o_t hc hf
    refine lv_iconst (v := (-1)) hx hb dX9_priorityOf_25 (by decide) ?_
    cases hf
    exact kR _ _ _ _ hP hD hS dX9_priorityOf_26
  · have hf := o_f hc hf
    refine lv_aload_n hx hb dX9_priorityOf_13 rfl (lv_at hl 0 rfl) ?_
    refine lv_iload_n hx hb dX9_priorityOf_14 rfl (lv_at hl 1 rfl) ?_
    refine lv_aload_n hx hb dX9_priorityOf_15 rfl (lv_at hl 0 rfl) ?_
    refine va_get (D := D) (ci := 9) (v := .ref a19) (C := RX9) (T := TX9) (N := 45) hx hb hts in_X9 hown hK hP 0 rfl rfl 19 (by decide) lk_68 (fun _ h9 => h9) rfl dX9_priorityOf_16 ?_
    obtain ⟨r_3, hc, hf⟩ := ob1_some hf
    refine g_VI (As := [.int x1, .ref a19]) (rest := []) (ws' := (w_X9_priorityOf kc a0 a1 a2 a3 a4 a5 a6 a7 a8 a9 a10 a11 a12 a13 a14 a15 a16 a17 a18 a19 a20 a21 a22 a23 a24 a25 a26 a27 a28 0 loftSize startWind seed draftLoft draftStart draftSeed length textSize start next_ token value error errorAt number undos letters priority)) ⟨hx, hb, hml, hown, hts⟩ hN hK hP hD hS hA (c_X9_sumOf l D kc N a0 a1 a2 a3 a4 a5 a6 a7 a8 a9 a10 a11 a12 a13 a14 a15 a16 a17 a18 a19 a20 a21 a22 a23 a24 a25 a26 a27 a28 a19 48 0 loftSize startWind seed draftLoft draftStart draftSeed length textSize start next_ token value error errorAt number undos letters priority x1 r_3 hc) (cwV 2 hts gX9_priorityOf_X9_sumOf rfl rfl rfl (by decide +kernel) ⟨Nat.le_of_ble_eq_true rfl, Nat.le_of_ble_eq_true rfl⟩) [0, 1, 2] [] [0, 1, 2] (by exact ⟨rfl, rfl, by decide, rfl⟩) 0 9 rfl rfl rfl rfl hl.1 rfl (Nat.le_of_ble_eq_true rfl) dX9_priorityOf_19 ⟨Nat.le_refl _, Nat.le_refl _⟩ (fun H locs hP hD hS => ?_)
    refine lv_goto (tgt := 26) hx hb dX9_priorityOf_22 (by decide) ?_
    cases hf
    exact kR _ _ _ _ hP hD hS dX9_priorityOf_26
abbrev w_X9_inState (kc : Nat → ClassId) (a0 a1 a2 a3 a4 a5 a6 a7 a8 a9 a10 a11 a12 a13 a14 a15 a16 a17 a18 a19 a20 a21 a22 a23 a24 a25 a26 a27 a28 : Nat) (thrown : Int32) (loftSize : Int32) (startWind : Int32) (seed : Int32) (draftLoft : Int32) (draftStart : Int32) (draftSeed : Int32) (length : Int32) (textSize : Int32) (start : Int32) (next_ : Int32) (token : Int32) (value : Int32) (error : Int32) (errorAt : Int32) (number : Int32) (undos : Int32) (letters : Nat → Int32) (now : Nat → Int32) : va_W := [(a0, .inr (9, [.int thrown, .ref a1, .ref a2, .ref a3, .ref a4, .ref a5, .ref a6, .ref a7, .ref a8, .ref a9, .ref a10, .ref a11, .ref a12, .ref a13, .ref a14, .ref a15, .ref a16, .ref a17, .ref a18, .ref a19, .int loftSize, .int startWind, .int seed, .int draftLoft, .int draftStart, .int draftSeed, .ref a20, .int length, .int textSize, .int start, .int next_, .int token, .int value, .int error, .int errorAt, .int number, .ref a21, .ref a22, .ref a23, .ref a24, .ref a25, .int undos, .ref a26, .ref a27, .ref a28])), (a17, .inl (kc 1, 2, .inl letters)), (a1, .inl (kc 1, 213, .inl now))]
set_option maxHeartbeats 4000000 in
set_option maxRecDepth 100000 in
theorem c_X9_inState (l : Launch) (D : va_G) (kc : Nat → ClassId) (N : Nat) (a0 a1 a2 a3 a4 a5 a6 a7 a8 a9 a10 a11 a12 a13 a14 a15 a16 a17 a18 a19 a20 a21 a22 a23 a24 a25 a26 a27 a28 : Nat) (thrown : Int32) (loftSize : Int32) (startWind : Int32) (seed : Int32) (draftLoft : Int32) (draftStart : Int32) (draftSeed : Int32) (length : Int32) (textSize : Int32) (start : Int32) (next_ : Int32) (token : Int32) (value : Int32) (error : Int32) (errorAt : Int32) (number : Int32) (undos : Int32) (letters : Nat → Int32) (now : Nat → Int32) (x1 : Int32) (r_ : Int32) (hf : f_X9_inState N letters now x1 = some r_) : MI l yX9_inState wsX9_inState ({ frames := 0, cells := 0, slots := 0, locals := 0 }) D kc [.ref a0, .int x1] (w_X9_inState kc a0 a1 a2 a3 a4 a5 a6 a7 a8 a9 a10 a11 a12 a13 a14 a15 a16 a17 a18 a19 a20 a21 a22 a23 a24 a25 a26 a27 a28 thrown loftSize startWind seed draftLoft draftStart draftSeed length textSize start next_ token value error errorAt number undos letters now) (w_X9_inState kc a0 a1 a2 a3 a4 a5 a6 a7 a8 a9 a10 a11 a12 a13 a14 a15 a16 a17 a18 a19 a20 a21 a22 a23 a24 a25 a26 a27 a28 thrown loftSize startWind seed draftLoft draftStart draftSeed length textSize start next_ token value error errorAt number undos letters now) r_ := by
  refine gM_I (cc := cX9_inState) (maxL := 4) (by decide) rfl (Nat.le_of_ble_eq_true rfl) ?_
  intro p e s m below meth c A ls Q hx hb hml hown hts hN hK hP hD hA hl kR
  have hS : va_S A s.heap s.heap [] := va_S.rf
  have hl : lv_has ls 4 [(0, .ref a0), (1, .int x1)] := hl
  have in_X9 : ∀ w ∈ u_ws RX9 TX9 45, w ∈ wsX9_inState := by decide +kernel
  have lk_62 := hts (.fieldLink RX9 62 "BalloonMailModel" "letters" "[I") (by decide +kernel)
  have lk_13 := hts (.fieldLink RX9 13 "BalloonMailModel" "now" "[I") (by decide +kernel)
  unfold f_X9_inState at hf
  refine lv_iconst (v := 0) hx hb dX9_inState_0 (by decide) ?_
  refine lv_istore_n (lv' := [(2, .int 0), (0, .ref a0), (1, .int x1)]) hx hb dX9_inState_1 rfl hl (by decide) rfl (fun ls hl => ?_)
  refine lv_iconst (v := 0) hx hb dX9_inState_2 (by decide) ?_
  refine lv_istore_n (lv' := [(3, .int 0), (2, .int 0), (0, .ref a0), (1, .int x1)]) hx hb dX9_inState_3 rfl hl (by decide) rfl (fun ls hl => ?_)
  have L4 : ∀ (n : Nat) (y3_4 : Int32) (y2_4 : Int32) (y3_4o : Int32) (y2_4o : Int32), f_X9_inState_4 N letters now x1 n y3_4 y2_4 = some (y3_4o, y2_4o) → (∀ (H : Heap) (locs : List Loc) (ls : Array Slot), va_P D vwCl (w_X9_inState kc a0 a1 a2 a3 a4 a5 a6 a7 a8 a9 a10 a11 a12 a13 a14 a15 a16 a17 a18 a19 a20 a21 a22 a23 a24 a25 a26 a27 a28 thrown loftSize startWind seed draftLoft draftStart draftSeed length textSize start next_ token value error errorAt number undos letters now) H → va_D A (w_X9_inState kc a0 a1 a2 a3 a4 a5 a6 a7 a8 a9 a10 a11 a12 a13 a14 a15 a16 a17 a18 a19 a20 a21 a22 a23 a24 a25 a26 a27 a28 thrown loftSize startWind seed draftLoft draftStart draftSeed length textSize start next_ token value error errorAt number undos letters now) → va_S A s.heap H locs → lv_has ls 4 [(0, .ref a0), (1, .int x1), (2, .int y2_4o), (3, .int y3_4o)] → W p l e ({ frames := 0, cells := 0, slots := 0, locals := 0 }) s m (([.ref a0, .int x1] : List Value).toArray) below meth c H locs 0 0 Q (F0 m 43 ls [])) → ∀ (H : Heap) (locs : List Loc) (ls : Array Slot), va_P D vwCl (w_X9_inState kc a0 a1 a2 a3 a4 a5 a6 a7 a8 a9 a10 a11 a12 a13 a14 a15 a16 a17 a18 a19 a20 a21 a22 a23 a24 a25 a26 a27 a28 thrown loftSize startWind seed draftLoft draftStart draftSeed length textSize start next_ token value error errorAt number undos letters now) H → va_D A (w_X9_inState kc a0 a1 a2 a3 a4 a5 a6 a7 a8 a9 a10 a11 a12 a13 a14 a15 a16 a17 a18 a19 a20 a21 a22 a23 a24 a25 a26 a27 a28 thrown loftSize startWind seed draftLoft draftStart draftSeed length textSize start next_ token value error errorAt number undos letters now) → va_S A s.heap H locs → lv_has ls 4 [(0, .ref a0), (1, .int x1), (2, .int y2_4), (3, .int y3_4)] → W p l e ({ frames := 0, cells := 0, slots := 0, locals := 0 }) s m (([.ref a0, .int x1] : List Value).toArray) below meth c H locs 0 0 Q (F0 m 4 ls []) := by
    intro n
    induction n with
    | zero => intro _ _ _ _ hf; rw [f_X9_inState_4.eq_1] at hf; cases hf
    | succ n ih =>
      intro y3_4 y2_4 y3_4o y2_4o hf hk H locs ls hP hD hS hl
      rw [f_X9_inState_4.eq_2] at hf
      refine lv_iload_n hx hb dX9_inState_4 rfl (lv_at hl 3 rfl) ?_
      refine lv_aload_n hx hb dX9_inState_5 rfl (lv_at hl 0 rfl) ?_
      refine va_get (D := D) (ci := 9) (v := .ref a17) (C := RX9) (T := TX9) (N := 45) hx hb hts in_X9 hown hK hP 0 rfl rfl 17 (by decide) lk_62 (fun _ h9 => h9) rfl dX9_inState_6 ?_
      refine lv_iconst (v := 0) hx hb dX9_inState_9 (by decide) ?_
      obtain ⟨hi, hf⟩ := gIx_some hf
      refine va_iald hx hb hK hP 1 1 rfl rfl hi dX9_inState_10 ?_
      refine lv_icmp_ge (tgt := 43) hx hb dX9_inState_11 (by decide) (fun hc => ?_) (fun hc => ?_)
      · have hf := o_t hc hf
        cases hf
        exact hk _ _ _ hP hD hS (lv_sub hl [0, 1, 2, 3] rfl)
      · have hf := o_f hc hf
        refine lv_iload_n hx hb dX9_inState_14 rfl (lv_at hl 2 rfl) ?_
        refine lv_aload_n hx hb dX9_inState_15 rfl (lv_at hl 0 rfl) ?_
        refine va_get (D := D) (ci := 9) (v := .ref a1) (C := RX9) (T := TX9) (N := 45) hx hb hts in_X9 hown hK hP 0 rfl rfl 1 (by decide) lk_13 (fun _ h9 => h9) rfl dX9_inState_16 ?_
        refine lv_bipush (v := 35) hx hb dX9_inState_19 (by decide) ?_
        refine lv_iload_n hx hb dX9_inState_21 rfl (lv_at hl 3 rfl) ?_
        refine lv_iadd hx hb dX9_inState_22 ?_
        obtain ⟨hi, hf⟩ := gIx_some hf
        refine va_iald hx hb hK hP 2 1 rfl rfl hi dX9_inState_23 ?_
        refine lv_iload_n hx hb dX9_inState_24 rfl (lv_at hl 1 rfl) ?_
        refine lv_icmp_ne (tgt := 34) hx hb dX9_inState_25 (by decide) (fun hc => ?_) (fun hc => ?_)
        · have hf := o_f hc hf
          refine lv_iconst (v := 0) hx hb dX9_inState_34 (by decide) ?_
          refine lv_ior hx hb dX9_inState_35 ?_
          refine lv_istore_n (lv' := [(2, .int (y2_4 ||| 0)), (0, .ref a0), (1, .int x1), (3, .int y3_4)]) hx hb dX9_inState_36 rfl hl (by decide) rfl (fun ls hl => ?_)
          refine lv_iinc (v := (y3_4 + 1)) (lv' := [(3, .int (y3_4 + 1)), (2, .int (y2_4 ||| 0)), (0, .ref a0), (1, .int x1)]) hx hb dX9_inState_37 hl (k := 3) rfl (by rfl) (by decide) rfl (fun ls hl => ?_)
          refine lv_goto (tgt := 4) hx hb dX9_inState_40 (by decide) ?_
          exact ih _ _ _ _ hf hk _ _ _ hP hD hS (lv_sub hl [2, 3, 1, 0] rfl)
        · have hf := o_t hc hf
          refine lv_iconst (v := 1) hx hb dX9_inState_28 (by decide) ?_
          refine lv_iload_n hx hb dX9_inState_29 rfl (lv_at hl 3 rfl) ?_
          refine lv_ishl hx hb dX9_inState_30 ?_
          refine lv_goto (tgt := 35) hx hb dX9_inState_31 (by decide) ?_
          refine lv_ior hx hb dX9_inState_35 ?_
          refine lv_istore_n (lv' := [(2, .int (y2_4 ||| ((1 : Int32) <<< ((y3_4 : Int32) &&& 31)))), (0, .ref a0), (1, .int x1), (3, .int y3_4)]) hx hb dX9_inState_36 rfl hl (by decide) rfl (fun ls hl => ?_)
          refine lv_iinc (v := (y3_4 + 1)) (lv' := [(3, .int (y3_4 + 1)), (2, .int (y2_4 ||| ((1 : Int32) <<< ((y3_4 : Int32) &&& 31)))), (0, .ref a0), (1, .int x1)]) hx hb dX9_inState_37 hl (k := 3) rfl (by rfl) (by decide) rfl (fun ls hl => ?_)
          refine lv_goto (tgt := 4) hx hb dX9_inState_40 (by decide) ?_
          exact ih _ _ _ _ hf hk _ _ _ hP hD hS (lv_sub hl [2, 3, 1, 0] rfl)
  obtain ⟨y3_4o, y2_4o, hc, hf⟩ := ob2_some hf
  refine L4 N _ _ _ _ hc (fun H locs ls hP hD hS hl => ?_) _ _ _ hP hD hS (lv_sub hl [2, 3, 1, 0] rfl)
  refine lv_iload_n hx hb dX9_inState_43 rfl (lv_at hl 2 rfl) ?_
  cases hf
  exact kR _ _ _ _ hP hD hS dX9_inState_44
abbrev w_X9_lettersIn (kc : Nat → ClassId) (a0 a1 a2 a3 a4 a5 a6 a7 a8 a9 a10 a11 a12 a13 a14 a15 a16 a17 a18 a19 a20 a21 a22 a23 a24 a25 a26 a27 a28 : Nat) (thrown : Int32) (loftSize : Int32) (startWind : Int32) (seed : Int32) (draftLoft : Int32) (draftStart : Int32) (draftSeed : Int32) (length : Int32) (textSize : Int32) (start : Int32) (next_ : Int32) (token : Int32) (value : Int32) (error : Int32) (errorAt : Int32) (number : Int32) (undos : Int32) (letters : Nat → Int32) (now : Nat → Int32) : va_W := [(a0, .inr (9, [.int thrown, .ref a1, .ref a2, .ref a3, .ref a4, .ref a5, .ref a6, .ref a7, .ref a8, .ref a9, .ref a10, .ref a11, .ref a12, .ref a13, .ref a14, .ref a15, .ref a16, .ref a17, .ref a18, .ref a19, .int loftSize, .int startWind, .int seed, .int draftLoft, .int draftStart, .int draftSeed, .ref a20, .int length, .int textSize, .int start, .int next_, .int token, .int value, .int error, .int errorAt, .int number, .ref a21, .ref a22, .ref a23, .ref a24, .ref a25, .int undos, .ref a26, .ref a27, .ref a28])), (a17, .inl (kc 1, 2, .inl letters)), (a1, .inl (kc 1, 213, .inl now))]
set_option maxHeartbeats 4000000 in
set_option maxRecDepth 100000 in
theorem c_X9_lettersIn (l : Launch) (D : va_G) (kc : Nat → ClassId) (N : Nat) (a0 a1 a2 a3 a4 a5 a6 a7 a8 a9 a10 a11 a12 a13 a14 a15 a16 a17 a18 a19 a20 a21 a22 a23 a24 a25 a26 a27 a28 : Nat) (thrown : Int32) (loftSize : Int32) (startWind : Int32) (seed : Int32) (draftLoft : Int32) (draftStart : Int32) (draftSeed : Int32) (length : Int32) (textSize : Int32) (start : Int32) (next_ : Int32) (token : Int32) (value : Int32) (error : Int32) (errorAt : Int32) (number : Int32) (undos : Int32) (letters : Nat → Int32) (now : Nat → Int32) (x1 : Int32) (r_ : Int32) (thrown' : Int32) (hf : f_X9_lettersIn N letters now x1 = some (r_, thrown')) : MI l yX9_lettersIn wsX9_lettersIn ({ frames := 1, cells := 0, slots := 0, locals := 23 }) D kc [.ref a0, .int x1] (w_X9_lettersIn kc a0 a1 a2 a3 a4 a5 a6 a7 a8 a9 a10 a11 a12 a13 a14 a15 a16 a17 a18 a19 a20 a21 a22 a23 a24 a25 a26 a27 a28 thrown loftSize startWind seed draftLoft draftStart draftSeed length textSize start next_ token value error errorAt number undos letters now) (w_X9_lettersIn kc a0 a1 a2 a3 a4 a5 a6 a7 a8 a9 a10 a11 a12 a13 a14 a15 a16 a17 a18 a19 a20 a21 a22 a23 a24 a25 a26 a27 a28 thrown' loftSize startWind seed draftLoft draftStart draftSeed length textSize start next_ token value error errorAt number undos letters now) r_ := by
  refine gM_I (cc := cX9_lettersIn) (maxL := 2) (by decide) rfl (Nat.le_of_ble_eq_true rfl) ?_
  intro p e s m below meth c A ls Q hx hb hml hown hts hN hK hP hD hA hl kR
  have hS : va_S A s.heap s.heap [] := va_S.rf
  have hl : lv_has ls 2 [(0, .ref a0), (1, .int x1)] := hl
  have in_X9 : ∀ w ∈ u_ws RX9 TX9 45, w ∈ wsX9_lettersIn := by decide +kernel
  have lk_1 := hts (.fieldLink RX9 1 "BalloonMailModel" "thrown" "I") (by decide +kernel)
  unfold f_X9_lettersIn at hf
  refine lv_aload_n hx hb dX9_lettersIn_0 rfl (lv_at hl 0 rfl) ?_
  refine lv_iconst (v := 0) hx hb dX9_lettersIn_1 (by decide) ?_
  refine va_put (D := D) (ci := 9) (v := .int 0) (ty := .int) (C := RX9) (T := TX9) (N := 45) hx hb hts in_X9 tyX9 tyX9_ok nmX9 hown hK hP hD hS 0 rfl rfl 0 (by decide) lk_1 (fun _ h9 => h9) rfl (by decide +kernel) rfl rfl (Nat.le_of_ble_eq_true rfl) dX9_lettersIn_2 (fun H locs hP hD hS => ?_)
  have hP : va_P D vwCl (w_X9_lettersIn kc a0 a1 a2 a3 a4 a5 a6 a7 a8 a9 a10 a11 a12 a13 a14 a15 a16 a17 a18 a19 a20 a21 a22 a23 a24 a25 a26 a27 a28 0 loftSize startWind seed draftLoft draftStart draftSeed length textSize start next_ token value error errorAt number undos letters now) H := hP
  have hD : va_D A (w_X9_lettersIn kc a0 a1 a2 a3 a4 a5 a6 a7 a8 a9 a10 a11 a12 a13 a14 a15 a16 a17 a18 a19 a20 a21 a22 a23 a24 a25 a26 a27 a28 0 loftSize startWind seed draftLoft draftStart draftSeed length textSize start next_ token value error errorAt number undos letters now) := hD
  refine lv_iload_n hx hb dX9_lettersIn_5 rfl (lv_at hl 1 rfl) ?_
  refine lv_iconst (v := 0) hx hb dX9_lettersIn_6 (by decide) ?_
  refine lv_iconst (v := 3) hx hb dX9_lettersIn_7 (by decide) ?_
  obtain ⟨r_1, hc, hf⟩ := ob1_some hf
  refine g_SZ (As := [.int x1, .int 0, .int 3]) (rest := []) (ws' := (w_X9_lettersIn kc a0 a1 a2 a3 a4 a5 a6 a7 a8 a9 a10 a11 a12 a13 a14 a15 a16 a17 a18 a19 a20 a21 a22 a23 a24 a25 a26 a27 a28 0 loftSize startWind seed draftLoft draftStart draftSeed length textSize start next_ token value error errorAt number undos letters now)) ⟨hx, hb, hml, hown, hts⟩ hN hK hP hD hS hA (c_X9_within l D kc N x1 0 3 r_1 hc) (va_cwS 3 hts gX9_lettersIn_X9_within rfl rfl rfl (by decide +kernel) ⟨Nat.le_of_ble_eq_true rfl, Nat.le_of_ble_eq_true rfl⟩) [] [0, 1, 2] [0, 1, 2] (by exact ⟨rfl, rfl, by decide, rfl⟩) rfl hl.1 rfl (Nat.le_of_ble_eq_true rfl) dX9_lettersIn_8 ⟨Nat.le_refl _, Nat.le_refl _⟩ (fun H locs hz hP hD hS => ?_)
  have hz_2 := hz
  refine lv_if_eq (tgt := 22) hx hb dX9_lettersIn_11 (by decide) (fun hc => ?_) (fun hc => ?_)
  · have hf := o_t hc hf
    refine lv_iconst (v := (-1)) hx hb dX9_lettersIn_22 (by decide) ?_
    cases hf
    exact kR _ _ _ _ hP hD hS dX9_lettersIn_23
  · have hf := o_f hc hf
    refine lv_aload_n hx hb dX9_lettersIn_14 rfl (lv_at hl 0 rfl) ?_
    refine lv_iload_n hx hb dX9_lettersIn_15 rfl (lv_at hl 1 rfl) ?_
    obtain ⟨r_3, hc, hf⟩ := ob1_some hf
    refine g_VI (As := [.int x1]) (rest := []) (ws' := (w_X9_lettersIn kc a0 a1 a2 a3 a4 a5 a6 a7 a8 a9 a10 a11 a12 a13 a14 a15 a16 a17 a18 a19 a20 a21 a22 a23 a24 a25 a26 a27 a28 0 loftSize startWind seed draftLoft draftStart draftSeed length textSize start next_ token value error errorAt number undos letters now)) ⟨hx, hb, hml, hown, hts⟩ hN hK hP hD hS hA (c_X9_inState l D kc N a0 a1 a2 a3 a4 a5 a6 a7 a8 a9 a10 a11 a12 a13 a14 a15 a16 a17 a18 a19 a20 a21 a22 a23 a24 a25 a26 a27 a28 0 loftSize startWind seed draftLoft draftStart draftSeed length textSize start next_ token value error errorAt number undos letters now x1 r_3 hc) (cwV 1 hts gX9_lettersIn_X9_inState rfl rfl rfl (by decide +kernel) ⟨Nat.le_of_ble_eq_true rfl, Nat.le_of_ble_eq_true rfl⟩) [0, 1, 2] [] [0, 1, 2] (by exact ⟨rfl, rfl, by decide, rfl⟩) 0 9 rfl rfl rfl rfl hl.1 rfl (Nat.le_of_ble_eq_true rfl) dX9_lettersIn_16 ⟨Nat.le_refl _, Nat.le_refl _⟩ (fun H locs hP hD hS => ?_)
    refine lv_goto (tgt := 23) hx hb dX9_lettersIn_19 (by decide) ?_
    cases hf
    exact kR _ _ _ _ hP hD hS dX9_lettersIn_23
abbrev w_X9_day (kc : Nat → ClassId) (a0 a1 a2 a3 a4 a5 a6 a7 a8 a9 a10 a11 a12 a13 a14 a15 a16 a17 a18 a19 a20 a21 a22 a23 a24 a25 a26 a27 a28 : Nat) (thrown : Int32) (loftSize : Int32) (startWind : Int32) (seed : Int32) (draftLoft : Int32) (draftStart : Int32) (draftSeed : Int32) (length : Int32) (textSize : Int32) (start : Int32) (next_ : Int32) (token : Int32) (value : Int32) (error : Int32) (errorAt : Int32) (number : Int32) (undos : Int32) (now : Nat → Int32) : va_W := [(a0, .inr (9, [.int thrown, .ref a1, .ref a2, .ref a3, .ref a4, .ref a5, .ref a6, .ref a7, .ref a8, .ref a9, .ref a10, .ref a11, .ref a12, .ref a13, .ref a14, .ref a15, .ref a16, .ref a17, .ref a18, .ref a19, .int loftSize, .int startWind, .int seed, .int draftLoft, .int draftStart, .int draftSeed, .ref a20, .int length, .int textSize, .int start, .int next_, .int token, .int value, .int error, .int errorAt, .int number, .ref a21, .ref a22, .ref a23, .ref a24, .ref a25, .int undos, .ref a26, .ref a27, .ref a28])), (a1, .inl (kc 1, 213, .inl now))]
set_option maxHeartbeats 4000000 in
set_option maxRecDepth 100000 in
theorem c_X9_day (l : Launch) (D : va_G) (kc : Nat → ClassId) (N : Nat) (a0 a1 a2 a3 a4 a5 a6 a7 a8 a9 a10 a11 a12 a13 a14 a15 a16 a17 a18 a19 a20 a21 a22 a23 a24 a25 a26 a27 a28 : Nat) (thrown : Int32) (loftSize : Int32) (startWind : Int32) (seed : Int32) (draftLoft : Int32) (draftStart : Int32) (draftSeed : Int32) (length : Int32) (textSize : Int32) (start : Int32) (next_ : Int32) (token : Int32) (value : Int32) (error : Int32) (errorAt : Int32) (number : Int32) (undos : Int32) (now : Nat → Int32) (r_ : Int32) (thrown' : Int32) (hf : f_X9_day N now = some (r_, thrown')) : MI l yX9_day wsX9_day ({ frames := 0, cells := 0, slots := 0, locals := 0 }) D kc [.ref a0] (w_X9_day kc a0 a1 a2 a3 a4 a5 a6 a7 a8 a9 a10 a11 a12 a13 a14 a15 a16 a17 a18 a19 a20 a21 a22 a23 a24 a25 a26 a27 a28 thrown loftSize startWind seed draftLoft draftStart draftSeed length textSize start next_ token value error errorAt number undos now) (w_X9_day kc a0 a1 a2 a3 a4 a5 a6 a7 a8 a9 a10 a11 a12 a13 a14 a15 a16 a17 a18 a19 a20 a21 a22 a23 a24 a25 a26 a27 a28 thrown' loftSize startWind seed draftLoft draftStart draftSeed length textSize start next_ token value error errorAt number undos now) r_ := by
  refine gM_I (cc := cX9_day) (maxL := 1) (by decide) rfl (Nat.le_of_ble_eq_true rfl) ?_
  intro p e s m below meth c A ls Q hx hb hml hown hts hN hK hP hD hA hl kR
  have hS : va_S A s.heap s.heap [] := va_S.rf
  have hl : lv_has ls 1 [(0, .ref a0)] := hl
  have in_X9 : ∀ w ∈ u_ws RX9 TX9 45, w ∈ wsX9_day := by decide +kernel
  have lk_1 := hts (.fieldLink RX9 1 "BalloonMailModel" "thrown" "I") (by decide +kernel)
  have lk_13 := hts (.fieldLink RX9 13 "BalloonMailModel" "now" "[I") (by decide +kernel)
  unfold f_X9_day at hf
  refine lv_aload_n hx hb dX9_day_0 rfl (lv_at hl 0 rfl) ?_
  refine lv_iconst (v := 0) hx hb dX9_day_1 (by decide) ?_
  refine va_put (D := D) (ci := 9) (v := .int 0) (ty := .int) (C := RX9) (T := TX9) (N := 45) hx hb hts in_X9 tyX9 tyX9_ok nmX9 hown hK hP hD hS 0 rfl rfl 0 (by decide) lk_1 (fun _ h9 => h9) rfl (by decide +kernel) rfl rfl (Nat.le_of_ble_eq_true rfl) dX9_day_2 (fun H locs hP hD hS => ?_)
  have hP : va_P D vwCl (w_X9_day kc a0 a1 a2 a3 a4 a5 a6 a7 a8 a9 a10 a11 a12 a13 a14 a15 a16 a17 a18 a19 a20 a21 a22 a23 a24 a25 a26 a27 a28 0 loftSize startWind seed draftLoft draftStart draftSeed length textSize start next_ token value error errorAt number undos now) H := hP
  have hD : va_D A (w_X9_day kc a0 a1 a2 a3 a4 a5 a6 a7 a8 a9 a10 a11 a12 a13 a14 a15 a16 a17 a18 a19 a20 a21 a22 a23 a24 a25 a26 a27 a28 0 loftSize startWind seed draftLoft draftStart draftSeed length textSize start next_ token value error errorAt number undos now) := hD
  refine lv_aload_n hx hb dX9_day_5 rfl (lv_at hl 0 rfl) ?_
  refine va_get (D := D) (ci := 9) (v := .ref a1) (C := RX9) (T := TX9) (N := 45) hx hb hts in_X9 hown hK hP 0 rfl rfl 1 (by decide) lk_13 (fun _ h9 => h9) rfl dX9_day_6 ?_
  refine lv_iconst (v := 0) hx hb dX9_day_9 (by decide) ?_
  obtain ⟨hi, hf⟩ := gIx_some hf
  refine va_iald hx hb hK hP 1 1 rfl rfl hi dX9_day_10 ?_
  cases hf
  exact kR _ _ _ _ hP hD hS dX9_day_11
abbrev w_X9_wind (kc : Nat → ClassId) (a0 a1 a2 a3 a4 a5 a6 a7 a8 a9 a10 a11 a12 a13 a14 a15 a16 a17 a18 a19 a20 a21 a22 a23 a24 a25 a26 a27 a28 : Nat) (thrown : Int32) (loftSize : Int32) (startWind : Int32) (seed : Int32) (draftLoft : Int32) (draftStart : Int32) (draftSeed : Int32) (length : Int32) (textSize : Int32) (start : Int32) (next_ : Int32) (token : Int32) (value : Int32) (error : Int32) (errorAt : Int32) (number : Int32) (undos : Int32) (now : Nat → Int32) : va_W := [(a0, .inr (9, [.int thrown, .ref a1, .ref a2, .ref a3, .ref a4, .ref a5, .ref a6, .ref a7, .ref a8, .ref a9, .ref a10, .ref a11, .ref a12, .ref a13, .ref a14, .ref a15, .ref a16, .ref a17, .ref a18, .ref a19, .int loftSize, .int startWind, .int seed, .int draftLoft, .int draftStart, .int draftSeed, .ref a20, .int length, .int textSize, .int start, .int next_, .int token, .int value, .int error, .int errorAt, .int number, .ref a21, .ref a22, .ref a23, .ref a24, .ref a25, .int undos, .ref a26, .ref a27, .ref a28])), (a1, .inl (kc 1, 213, .inl now))]
set_option maxHeartbeats 4000000 in
set_option maxRecDepth 100000 in
theorem c_X9_wind (l : Launch) (D : va_G) (kc : Nat → ClassId) (N : Nat) (a0 a1 a2 a3 a4 a5 a6 a7 a8 a9 a10 a11 a12 a13 a14 a15 a16 a17 a18 a19 a20 a21 a22 a23 a24 a25 a26 a27 a28 : Nat) (thrown : Int32) (loftSize : Int32) (startWind : Int32) (seed : Int32) (draftLoft : Int32) (draftStart : Int32) (draftSeed : Int32) (length : Int32) (textSize : Int32) (start : Int32) (next_ : Int32) (token : Int32) (value : Int32) (error : Int32) (errorAt : Int32) (number : Int32) (undos : Int32) (now : Nat → Int32) (r_ : Int32) (thrown' : Int32) (hf : f_X9_wind N now = some (r_, thrown')) : MI l yX9_wind wsX9_wind ({ frames := 0, cells := 0, slots := 0, locals := 0 }) D kc [.ref a0] (w_X9_wind kc a0 a1 a2 a3 a4 a5 a6 a7 a8 a9 a10 a11 a12 a13 a14 a15 a16 a17 a18 a19 a20 a21 a22 a23 a24 a25 a26 a27 a28 thrown loftSize startWind seed draftLoft draftStart draftSeed length textSize start next_ token value error errorAt number undos now) (w_X9_wind kc a0 a1 a2 a3 a4 a5 a6 a7 a8 a9 a10 a11 a12 a13 a14 a15 a16 a17 a18 a19 a20 a21 a22 a23 a24 a25 a26 a27 a28 thrown' loftSize startWind seed draftLoft draftStart draftSeed length textSize start next_ token value error errorAt number undos now) r_ := by
  refine gM_I (cc := cX9_wind) (maxL := 1) (by decide) rfl (Nat.le_of_ble_eq_true rfl) ?_
  intro p e s m below meth c A ls Q hx hb hml hown hts hN hK hP hD hA hl kR
  have hS : va_S A s.heap s.heap [] := va_S.rf
  have hl : lv_has ls 1 [(0, .ref a0)] := hl
  have in_X9 : ∀ w ∈ u_ws RX9 TX9 45, w ∈ wsX9_wind := by decide +kernel
  have lk_1 := hts (.fieldLink RX9 1 "BalloonMailModel" "thrown" "I") (by decide +kernel)
  have lk_13 := hts (.fieldLink RX9 13 "BalloonMailModel" "now" "[I") (by decide +kernel)
  unfold f_X9_wind at hf
  refine lv_aload_n hx hb dX9_wind_0 rfl (lv_at hl 0 rfl) ?_
  refine lv_iconst (v := 0) hx hb dX9_wind_1 (by decide) ?_
  refine va_put (D := D) (ci := 9) (v := .int 0) (ty := .int) (C := RX9) (T := TX9) (N := 45) hx hb hts in_X9 tyX9 tyX9_ok nmX9 hown hK hP hD hS 0 rfl rfl 0 (by decide) lk_1 (fun _ h9 => h9) rfl (by decide +kernel) rfl rfl (Nat.le_of_ble_eq_true rfl) dX9_wind_2 (fun H locs hP hD hS => ?_)
  have hP : va_P D vwCl (w_X9_wind kc a0 a1 a2 a3 a4 a5 a6 a7 a8 a9 a10 a11 a12 a13 a14 a15 a16 a17 a18 a19 a20 a21 a22 a23 a24 a25 a26 a27 a28 0 loftSize startWind seed draftLoft draftStart draftSeed length textSize start next_ token value error errorAt number undos now) H := hP
  have hD : va_D A (w_X9_wind kc a0 a1 a2 a3 a4 a5 a6 a7 a8 a9 a10 a11 a12 a13 a14 a15 a16 a17 a18 a19 a20 a21 a22 a23 a24 a25 a26 a27 a28 0 loftSize startWind seed draftLoft draftStart draftSeed length textSize start next_ token value error errorAt number undos now) := hD
  refine lv_aload_n hx hb dX9_wind_5 rfl (lv_at hl 0 rfl) ?_
  refine va_get (D := D) (ci := 9) (v := .ref a1) (C := RX9) (T := TX9) (N := 45) hx hb hts in_X9 hown hK hP 0 rfl rfl 1 (by decide) lk_13 (fun _ h9 => h9) rfl dX9_wind_6 ?_
  refine lv_iconst (v := 1) hx hb dX9_wind_9 (by decide) ?_
  obtain ⟨hi, hf⟩ := gIx_some hf
  refine va_iald hx hb hK hP 1 1 rfl rfl hi dX9_wind_10 ?_
  cases hf
  exact kR _ _ _ _ hP hD hS dX9_wind_11
abbrev w_X9_draw (kc : Nat → ClassId) (a0 a1 a2 a3 a4 a5 a6 a7 a8 a9 a10 a11 a12 a13 a14 a15 a16 a17 a18 a19 a20 a21 a22 a23 a24 a25 a26 a27 a28 : Nat) (thrown : Int32) (loftSize : Int32) (startWind : Int32) (seed : Int32) (draftLoft : Int32) (draftStart : Int32) (draftSeed : Int32) (length : Int32) (textSize : Int32) (start : Int32) (next_ : Int32) (token : Int32) (value : Int32) (error : Int32) (errorAt : Int32) (number : Int32) (undos : Int32) (now : Nat → Int32) : va_W := [(a0, .inr (9, [.int thrown, .ref a1, .ref a2, .ref a3, .ref a4, .ref a5, .ref a6, .ref a7, .ref a8, .ref a9, .ref a10, .ref a11, .ref a12, .ref a13, .ref a14, .ref a15, .ref a16, .ref a17, .ref a18, .ref a19, .int loftSize, .int startWind, .int seed, .int draftLoft, .int draftStart, .int draftSeed, .ref a20, .int length, .int textSize, .int start, .int next_, .int token, .int value, .int error, .int errorAt, .int number, .ref a21, .ref a22, .ref a23, .ref a24, .ref a25, .int undos, .ref a26, .ref a27, .ref a28])), (a1, .inl (kc 1, 213, .inl now))]
set_option maxHeartbeats 4000000 in
set_option maxRecDepth 100000 in
theorem c_X9_draw (l : Launch) (D : va_G) (kc : Nat → ClassId) (N : Nat) (a0 a1 a2 a3 a4 a5 a6 a7 a8 a9 a10 a11 a12 a13 a14 a15 a16 a17 a18 a19 a20 a21 a22 a23 a24 a25 a26 a27 a28 : Nat) (thrown : Int32) (loftSize : Int32) (startWind : Int32) (seed : Int32) (draftLoft : Int32) (draftStart : Int32) (draftSeed : Int32) (length : Int32) (textSize : Int32) (start : Int32) (next_ : Int32) (token : Int32) (value : Int32) (error : Int32) (errorAt : Int32) (number : Int32) (undos : Int32) (now : Nat → Int32) (r_ : Int32) (now' : Nat → Int32) (hf : f_X9_draw N now = some (r_, now')) : MI l yX9_draw wsX9_draw ({ frames := 0, cells := 0, slots := 0, locals := 0 }) D kc [.ref a0] (w_X9_draw kc a0 a1 a2 a3 a4 a5 a6 a7 a8 a9 a10 a11 a12 a13 a14 a15 a16 a17 a18 a19 a20 a21 a22 a23 a24 a25 a26 a27 a28 thrown loftSize startWind seed draftLoft draftStart draftSeed length textSize start next_ token value error errorAt number undos now) (w_X9_draw kc a0 a1 a2 a3 a4 a5 a6 a7 a8 a9 a10 a11 a12 a13 a14 a15 a16 a17 a18 a19 a20 a21 a22 a23 a24 a25 a26 a27 a28 thrown loftSize startWind seed draftLoft draftStart draftSeed length textSize start next_ token value error errorAt number undos now') r_ := by
  refine gM_I (cc := cX9_draw) (maxL := 3) (by decide) rfl (Nat.le_of_ble_eq_true rfl) ?_
  intro p e s m below meth c A ls Q hx hb hml hown hts hN hK hP hD hA hl kR
  have hS : va_S A s.heap s.heap [] := va_S.rf
  have hl : lv_has ls 3 [(0, .ref a0)] := hl
  have in_X9 : ∀ w ∈ u_ws RX9 TX9 45, w ∈ wsX9_draw := by decide +kernel
  have lk_13 := hts (.fieldLink RX9 13 "BalloonMailModel" "now" "[I") (by decide +kernel)
  unfold f_X9_draw at hf
  refine lv_aload_n hx hb dX9_draw_0 rfl (lv_at hl 0 rfl) ?_
  refine va_get (D := D) (ci := 9) (v := .ref a1) (C := RX9) (T := TX9) (N := 45) hx hb hts in_X9 hown hK hP 0 rfl rfl 1 (by decide) lk_13 (fun _ h9 => h9) rfl dX9_draw_1 ?_
  refine lv_iconst (v := 2) hx hb dX9_draw_4 (by decide) ?_
  obtain ⟨hi, hf⟩ := gIx_some hf
  refine va_iald hx hb hK hP 1 1 rfl rfl hi dX9_draw_5 ?_
  refine lv_i2l (v := ((now (2 : Int32).toNatClampNeg) : Int32).toInt64) hx hb dX9_draw_6 rfl ?_
  refine lv_ldc2 (v := 1103515245) hx hb hown (hts (.constantLong RX9 307 (1103515245)) (by decide +kernel)) dX9_draw_7 ?_
  refine lv_lmul hx hb dX9_draw_10 ?_
  refine lv_ldc2 (v := 12345) hx hb hown (hts (.constantLong RX9 309 (12345)) (by decide +kernel)) dX9_draw_11 ?_
  refine lv_ladd hx hb dX9_draw_14 ?_
  refine lv_ldc2 (v := 2147483648) hx hb hown (hts (.constantLong RX9 311 (2147483648)) (by decide +kernel)) dX9_draw_15 ?_
  refine lv_lrem hx hb dX9_draw_18 (by decide) ?_
  refine lv_lstore_n (lv' := [(1, .long ((((((now (2 : Int32).toNatClampNeg) : Int32).toInt64) * 1103515245) + 12345) - (((((now (2 : Int32).toNatClampNeg) : Int32).toInt64) * 1103515245) + 12345) / 2147483648 * 2147483648)), (0, .ref a0)]) hx hb dX9_draw_19 rfl hl (by decide) rfl (fun ls hl => ?_)
  refine lv_aload_n hx hb dX9_draw_20 rfl (lv_at hl 1 rfl) ?_
  refine va_get (D := D) (ci := 9) (v := .ref a1) (C := RX9) (T := TX9) (N := 45) hx hb hts in_X9 hown hK hP 0 rfl rfl 1 (by decide) lk_13 (fun _ h9 => h9) rfl dX9_draw_21 ?_
  refine lv_iconst (v := 2) hx hb dX9_draw_24 (by decide) ?_
  refine lv_lload_n hx hb dX9_draw_25 rfl (lv_at hl 0 rfl) ?_
  refine lv_l2i (v := (((((((now (2 : Int32).toNatClampNeg) : Int32).toInt64) * 1103515245) + 12345) - (((((now (2 : Int32).toNatClampNeg) : Int32).toInt64) * 1103515245) + 12345) / 2147483648 * 2147483648) : Int64).toInt32) hx hb dX9_draw_26 rfl ?_
  obtain ⟨hi, hf⟩ := gIx_some hf
  refine va_iast hx hb hK hP hD hS 1 1 rfl rfl hi dX9_draw_27 (fun H locs hP hD hS => ?_)
  have hP : va_P D vwCl (w_X9_draw kc a0 a1 a2 a3 a4 a5 a6 a7 a8 a9 a10 a11 a12 a13 a14 a15 a16 a17 a18 a19 a20 a21 a22 a23 a24 a25 a26 a27 a28 thrown loftSize startWind seed draftLoft draftStart draftSeed length textSize start next_ token value error errorAt number undos (upd now (2 : Int32).toNatClampNeg ((((((((now (2 : Int32).toNatClampNeg) : Int32).toInt64) * 1103515245) + 12345) - (((((now (2 : Int32).toNatClampNeg) : Int32).toInt64) * 1103515245) + 12345) / 2147483648 * 2147483648) : Int64).toInt32))) H := hP
  have hD : va_D A (w_X9_draw kc a0 a1 a2 a3 a4 a5 a6 a7 a8 a9 a10 a11 a12 a13 a14 a15 a16 a17 a18 a19 a20 a21 a22 a23 a24 a25 a26 a27 a28 thrown loftSize startWind seed draftLoft draftStart draftSeed length textSize start next_ token value error errorAt number undos (upd now (2 : Int32).toNatClampNeg ((((((((now (2 : Int32).toNatClampNeg) : Int32).toInt64) * 1103515245) + 12345) - (((((now (2 : Int32).toNatClampNeg) : Int32).toInt64) * 1103515245) + 12345) / 2147483648 * 2147483648) : Int64).toInt32))) := hD
  refine lv_lload_n hx hb dX9_draw_28 rfl (lv_at hl 0 rfl) ?_
  refine lv_ldc2 (v := 65536) hx hb hown (hts (.constantLong RX9 313 (65536)) (by decide +kernel)) dX9_draw_29 ?_
  refine lv_ldiv hx hb dX9_draw_32 (by decide) ?_
  refine lv_ldc2 (v := 10) hx hb hown (hts (.constantLong RX9 315 (10)) (by decide +kernel)) dX9_draw_33 ?_
  refine lv_lrem hx hb dX9_draw_36 (by decide) ?_
  refine lv_l2i (v := (((((((((now (2 : Int32).toNatClampNeg) : Int32).toInt64) * 1103515245) + 12345) - (((((now (2 : Int32).toNatClampNeg) : Int32).toInt64) * 1103515245) + 12345) / 2147483648 * 2147483648) / 65536) - (((((((now (2 : Int32).toNatClampNeg) : Int32).toInt64) * 1103515245) + 12345) - (((((now (2 : Int32).toNatClampNeg) : Int32).toInt64) * 1103515245) + 12345) / 2147483648 * 2147483648) / 65536) / 10 * 10) : Int64).toInt32) hx hb dX9_draw_37 rfl ?_
  cases hf
  exact kR _ _ _ _ hP hD hS dX9_draw_38
abbrev w_X9_notes (kc : Nat → ClassId) (a0 a1 a2 a3 a4 a5 a6 a7 a8 a9 a10 a11 a12 a13 a14 a15 a16 a17 a18 a19 a20 a21 a22 a23 a24 a25 a26 a27 a28 : Nat) (thrown : Int32) (loftSize : Int32) (startWind : Int32) (seed : Int32) (draftLoft : Int32) (draftStart : Int32) (draftSeed : Int32) (length : Int32) (textSize : Int32) (start : Int32) (next_ : Int32) (token : Int32) (value : Int32) (error : Int32) (errorAt : Int32) (number : Int32) (undos : Int32) (now : Nat → Int32) : va_W := [(a0, .inr (9, [.int thrown, .ref a1, .ref a2, .ref a3, .ref a4, .ref a5, .ref a6, .ref a7, .ref a8, .ref a9, .ref a10, .ref a11, .ref a12, .ref a13, .ref a14, .ref a15, .ref a16, .ref a17, .ref a18, .ref a19, .int loftSize, .int startWind, .int seed, .int draftLoft, .int draftStart, .int draftSeed, .ref a20, .int length, .int textSize, .int start, .int next_, .int token, .int value, .int error, .int errorAt, .int number, .ref a21, .ref a22, .ref a23, .ref a24, .ref a25, .int undos, .ref a26, .ref a27, .ref a28])), (a1, .inl (kc 1, 213, .inl now))]
set_option maxHeartbeats 4000000 in
set_option maxRecDepth 100000 in
theorem c_X9_notes (l : Launch) (D : va_G) (kc : Nat → ClassId) (N : Nat) (a0 a1 a2 a3 a4 a5 a6 a7 a8 a9 a10 a11 a12 a13 a14 a15 a16 a17 a18 a19 a20 a21 a22 a23 a24 a25 a26 a27 a28 : Nat) (thrown : Int32) (loftSize : Int32) (startWind : Int32) (seed : Int32) (draftLoft : Int32) (draftStart : Int32) (draftSeed : Int32) (length : Int32) (textSize : Int32) (start : Int32) (next_ : Int32) (token : Int32) (value : Int32) (error : Int32) (errorAt : Int32) (number : Int32) (undos : Int32) (now : Nat → Int32) (x1 : Int32) (x2 : Int32) (now' : Nat → Int32) (hf : f_X9_notes N now x1 x2 = some now') : MV l yX9_notes wsX9_notes ({ frames := 1, cells := 0, slots := 0, locals := 25 }) D kc [.ref a0, .int x1, .int x2] (w_X9_notes kc a0 a1 a2 a3 a4 a5 a6 a7 a8 a9 a10 a11 a12 a13 a14 a15 a16 a17 a18 a19 a20 a21 a22 a23 a24 a25 a26 a27 a28 thrown loftSize startWind seed draftLoft draftStart draftSeed length textSize start next_ token value error errorAt number undos now) (w_X9_notes kc a0 a1 a2 a3 a4 a5 a6 a7 a8 a9 a10 a11 a12 a13 a14 a15 a16 a17 a18 a19 a20 a21 a22 a23 a24 a25 a26 a27 a28 thrown loftSize startWind seed draftLoft draftStart draftSeed length textSize start next_ token value error errorAt number undos now') := by
  refine gM_V (cc := cX9_notes) (maxL := 3) (by decide) rfl (Nat.le_of_ble_eq_true rfl) ?_
  intro p e s m below meth c A ls Q hx hb hml hown hts hN hK hP hD hA hl kR
  have hS : va_S A s.heap s.heap [] := va_S.rf
  have hl : lv_has ls 3 [(0, .ref a0), (1, .int x1), (2, .int x2)] := hl
  have in_X9 : ∀ w ∈ u_ws RX9 TX9 45, w ∈ wsX9_notes := by decide +kernel
  have lk_13 := hts (.fieldLink RX9 13 "BalloonMailModel" "now" "[I") (by decide +kernel)
  have J82 : ∀ (now_82 : Nat → Int32), f_X9_notes_j82 N x1 x2 now_82 = some now' → ∀ (H : Heap) (locs : List Loc) (ls : Array Slot), va_P D vwCl (w_X9_notes kc a0 a1 a2 a3 a4 a5 a6 a7 a8 a9 a10 a11 a12 a13 a14 a15 a16 a17 a18 a19 a20 a21 a22 a23 a24 a25 a26 a27 a28 thrown loftSize startWind seed draftLoft draftStart draftSeed length textSize start next_ token value error errorAt number undos now_82) H → va_D A (w_X9_notes kc a0 a1 a2 a3 a4 a5 a6 a7 a8 a9 a10 a11 a12 a13 a14 a15 a16 a17 a18 a19 a20 a21 a22 a23 a24 a25 a26 a27 a28 thrown loftSize startWind seed draftLoft draftStart draftSeed length textSize start next_ token value error errorAt number undos now_82) → va_S A s.heap H locs → lv_has ls 3 [(0, .ref a0), (1, .int x1), (2, .int x2)] → W p l e ({ frames := 1, cells := 0, slots := 0, locals := 25 }) s m (([.ref a0, .int x1, .int x2] : List Value).toArray) below meth c H locs 0 0 Q (F0 m 82 ls []) := by
    clear hf
    intro now_82 hf H locs ls hP hD hS hl
    unfold f_X9_notes_j82 at hf
    refine lv_aload_n hx hb dX9_notes_82 rfl (lv_at hl 0 rfl) ?_
    refine va_get (D := D) (ci := 9) (v := .ref a1) (C := RX9) (T := TX9) (N := 45) hx hb hts in_X9 hown hK hP 0 rfl rfl 1 (by decide) lk_13 (fun _ h9 => h9) rfl dX9_notes_83 ?_
    refine lv_sipush (v := 165) hx hb dX9_notes_86 (by decide) ?_
    refine lv_aload_n hx hb dX9_notes_89 rfl (lv_at hl 0 rfl) ?_
    refine va_get (D := D) (ci := 9) (v := .ref a1) (C := RX9) (T := TX9) (N := 45) hx hb hts in_X9 hown hK hP 0 rfl rfl 1 (by decide) lk_13 (fun _ h9 => h9) rfl dX9_notes_90 ?_
    refine lv_sipush (v := 164) hx hb dX9_notes_93 (by decide) ?_
    obtain ⟨hi, hf⟩ := gIx_some hf
    refine va_iald hx hb hK hP 1 1 rfl rfl hi dX9_notes_96 ?_
    refine lv_iadd hx hb dX9_notes_97 ?_
    refine lv_iload_n hx hb dX9_notes_98 rfl (lv_at hl 1 rfl) ?_
    obtain ⟨hi, hf⟩ := gIx_some hf
    refine va_iast hx hb hK hP hD hS 1 1 rfl rfl hi dX9_notes_99 (fun H locs hP hD hS => ?_)
    have hP : va_P D vwCl (w_X9_notes kc a0 a1 a2 a3 a4 a5 a6 a7 a8 a9 a10 a11 a12 a13 a14 a15 a16 a17 a18 a19 a20 a21 a22 a23 a24 a25 a26 a27 a28 thrown loftSize startWind seed draftLoft draftStart draftSeed length textSize start next_ token value error errorAt number undos (upd now_82 ((165 + (now_82 (164 : Int32).toNatClampNeg)) : Int32).toNatClampNeg x1)) H := hP
    have hD : va_D A (w_X9_notes kc a0 a1 a2 a3 a4 a5 a6 a7 a8 a9 a10 a11 a12 a13 a14 a15 a16 a17 a18 a19 a20 a21 a22 a23 a24 a25 a26 a27 a28 thrown loftSize startWind seed draftLoft draftStart draftSeed length textSize start next_ token value error errorAt number undos (upd now_82 ((165 + (now_82 (164 : Int32).toNatClampNeg)) : Int32).toNatClampNeg x1)) := hD
    refine lv_aload_n hx hb dX9_notes_100 rfl (lv_at hl 0 rfl) ?_
    refine va_get (D := D) (ci := 9) (v := .ref a1) (C := RX9) (T := TX9) (N := 45) hx hb hts in_X9 hown hK hP 0 rfl rfl 1 (by decide) lk_13 (fun _ h9 => h9) rfl dX9_notes_101 ?_
    refine lv_sipush (v := 181) hx hb dX9_notes_104 (by decide) ?_
    refine lv_aload_n hx hb dX9_notes_107 rfl (lv_at hl 0 rfl) ?_
    refine va_get (D := D) (ci := 9) (v := .ref a1) (C := RX9) (T := TX9) (N := 45) hx hb hts in_X9 hown hK hP 0 rfl rfl 1 (by decide) lk_13 (fun _ h9 => h9) rfl dX9_notes_108 ?_
    refine lv_sipush (v := 164) hx hb dX9_notes_111 (by decide) ?_
    obtain ⟨hi, hf⟩ := gIx_some hf
    refine va_iald hx hb hK hP 1 1 rfl rfl hi dX9_notes_114 ?_
    refine lv_iadd hx hb dX9_notes_115 ?_
    refine lv_iload_n hx hb dX9_notes_116 rfl (lv_at hl 2 rfl) ?_
    obtain ⟨hi, hf⟩ := gIx_some hf
    refine va_iast hx hb hK hP hD hS 1 1 rfl rfl hi dX9_notes_117 (fun H locs hP hD hS => ?_)
    have hP : va_P D vwCl (w_X9_notes kc a0 a1 a2 a3 a4 a5 a6 a7 a8 a9 a10 a11 a12 a13 a14 a15 a16 a17 a18 a19 a20 a21 a22 a23 a24 a25 a26 a27 a28 thrown loftSize startWind seed draftLoft draftStart draftSeed length textSize start next_ token value error errorAt number undos (upd (upd now_82 ((165 + (now_82 (164 : Int32).toNatClampNeg)) : Int32).toNatClampNeg x1) ((181 + ((upd now_82 ((165 + (now_82 (164 : Int32).toNatClampNeg)) : Int32).toNatClampNeg x1) (164 : Int32).toNatClampNeg)) : Int32).toNatClampNeg x2)) H := hP
    have hD : va_D A (w_X9_notes kc a0 a1 a2 a3 a4 a5 a6 a7 a8 a9 a10 a11 a12 a13 a14 a15 a16 a17 a18 a19 a20 a21 a22 a23 a24 a25 a26 a27 a28 thrown loftSize startWind seed draftLoft draftStart draftSeed length textSize start next_ token value error errorAt number undos (upd (upd now_82 ((165 + (now_82 (164 : Int32).toNatClampNeg)) : Int32).toNatClampNeg x1) ((181 + ((upd now_82 ((165 + (now_82 (164 : Int32).toNatClampNeg)) : Int32).toNatClampNeg x1) (164 : Int32).toNatClampNeg)) : Int32).toNatClampNeg x2)) := hD
    refine lv_aload_n hx hb dX9_notes_118 rfl (lv_at hl 0 rfl) ?_
    refine va_get (D := D) (ci := 9) (v := .ref a1) (C := RX9) (T := TX9) (N := 45) hx hb hts in_X9 hown hK hP 0 rfl rfl 1 (by decide) lk_13 (fun _ h9 => h9) rfl dX9_notes_119 ?_
    refine lv_sipush (v := 197) hx hb dX9_notes_122 (by decide) ?_
    refine lv_aload_n hx hb dX9_notes_125 rfl (lv_at hl 0 rfl) ?_
    refine va_get (D := D) (ci := 9) (v := .ref a1) (C := RX9) (T := TX9) (N := 45) hx hb hts in_X9 hown hK hP 0 rfl rfl 1 (by decide) lk_13 (fun _ h9 => h9) rfl dX9_notes_126 ?_
    refine lv_sipush (v := 164) hx hb dX9_notes_129 (by decide) ?_
    obtain ⟨hi, hf⟩ := gIx_some hf
    refine va_iald hx hb hK hP 1 1 rfl rfl hi dX9_notes_132 ?_
    refine lv_iadd hx hb dX9_notes_133 ?_
    refine lv_aload_n hx hb dX9_notes_134 rfl (lv_at hl 0 rfl) ?_
    refine va_get (D := D) (ci := 9) (v := .ref a1) (C := RX9) (T := TX9) (N := 45) hx hb hts in_X9 hown hK hP 0 rfl rfl 1 (by decide) lk_13 (fun _ h9 => h9) rfl dX9_notes_135 ?_
    refine lv_iconst (v := 0) hx hb dX9_notes_138 (by decide) ?_
    obtain ⟨hi, hf⟩ := gIx_some hf
    refine va_iald hx hb hK hP 1 1 rfl rfl hi dX9_notes_139 ?_
    obtain ⟨hi, hf⟩ := gIx_some hf
    refine va_iast hx hb hK hP hD hS 1 1 rfl rfl hi dX9_notes_140 (fun H locs hP hD hS => ?_)
    have hP : va_P D vwCl (w_X9_notes kc a0 a1 a2 a3 a4 a5 a6 a7 a8 a9 a10 a11 a12 a13 a14 a15 a16 a17 a18 a19 a20 a21 a22 a23 a24 a25 a26 a27 a28 thrown loftSize startWind seed draftLoft draftStart draftSeed length textSize start next_ token value error errorAt number undos (upd (upd (upd now_82 ((165 + (now_82 (164 : Int32).toNatClampNeg)) : Int32).toNatClampNeg x1) ((181 + ((upd now_82 ((165 + (now_82 (164 : Int32).toNatClampNeg)) : Int32).toNatClampNeg x1) (164 : Int32).toNatClampNeg)) : Int32).toNatClampNeg x2) ((197 + ((upd (upd now_82 ((165 + (now_82 (164 : Int32).toNatClampNeg)) : Int32).toNatClampNeg x1) ((181 + ((upd now_82 ((165 + (now_82 (164 : Int32).toNatClampNeg)) : Int32).toNatClampNeg x1) (164 : Int32).toNatClampNeg)) : Int32).toNatClampNeg x2) (164 : Int32).toNatClampNeg)) : Int32).toNatClampNeg ((upd (upd now_82 ((165 + (now_82 (164 : Int32).toNatClampNeg)) : Int32).toNatClampNeg x1) ((181 + ((upd now_82 ((165 + (now_82 (164 : Int32).toNatClampNeg)) : Int32).toNatClampNeg x1) (164 : Int32).toNatClampNeg)) : Int32).toNatClampNeg x2) (0 : Int32).toNatClampNeg))) H := hP
    have hD : va_D A (w_X9_notes kc a0 a1 a2 a3 a4 a5 a6 a7 a8 a9 a10 a11 a12 a13 a14 a15 a16 a17 a18 a19 a20 a21 a22 a23 a24 a25 a26 a27 a28 thrown loftSize startWind seed draftLoft draftStart draftSeed length textSize start next_ token value error errorAt number undos (upd (upd (upd now_82 ((165 + (now_82 (164 : Int32).toNatClampNeg)) : Int32).toNatClampNeg x1) ((181 + ((upd now_82 ((165 + (now_82 (164 : Int32).toNatClampNeg)) : Int32).toNatClampNeg x1) (164 : Int32).toNatClampNeg)) : Int32).toNatClampNeg x2) ((197 + ((upd (upd now_82 ((165 + (now_82 (164 : Int32).toNatClampNeg)) : Int32).toNatClampNeg x1) ((181 + ((upd now_82 ((165 + (now_82 (164 : Int32).toNatClampNeg)) : Int32).toNatClampNeg x1) (164 : Int32).toNatClampNeg)) : Int32).toNatClampNeg x2) (164 : Int32).toNatClampNeg)) : Int32).toNatClampNeg ((upd (upd now_82 ((165 + (now_82 (164 : Int32).toNatClampNeg)) : Int32).toNatClampNeg x1) ((181 + ((upd now_82 ((165 + (now_82 (164 : Int32).toNatClampNeg)) : Int32).toNatClampNeg x1) (164 : Int32).toNatClampNeg)) : Int32).toNatClampNeg x2) (0 : Int32).toNatClampNeg))) := hD
    refine lv_aload_n hx hb dX9_notes_141 rfl (lv_at hl 0 rfl) ?_
    refine va_get (D := D) (ci := 9) (v := .ref a1) (C := RX9) (T := TX9) (N := 45) hx hb hts in_X9 hown hK hP 0 rfl rfl 1 (by decide) lk_13 (fun _ h9 => h9) rfl dX9_notes_142 ?_
    refine lv_sipush (v := 164) hx hb dX9_notes_145 (by decide) ?_
    refine lv_dup2_11 hx hb dX9_notes_148 rfl rfl ?_
    obtain ⟨hi, hf⟩ := gIx_some hf
    refine va_iald hx hb hK hP 1 1 rfl rfl hi dX9_notes_149 ?_
    refine lv_iconst (v := 1) hx hb dX9_notes_150 (by decide) ?_
    refine lv_iadd hx hb dX9_notes_151 ?_
    obtain ⟨hi, hf⟩ := gIx_some hf
    refine va_iast hx hb hK hP hD hS 1 1 rfl rfl hi dX9_notes_152 (fun H locs hP hD hS => ?_)
    have hP : va_P D vwCl (w_X9_notes kc a0 a1 a2 a3 a4 a5 a6 a7 a8 a9 a10 a11 a12 a13 a14 a15 a16 a17 a18 a19 a20 a21 a22 a23 a24 a25 a26 a27 a28 thrown loftSize startWind seed draftLoft draftStart draftSeed length textSize start next_ token value error errorAt number undos (upd (upd (upd (upd now_82 ((165 + (now_82 (164 : Int32).toNatClampNeg)) : Int32).toNatClampNeg x1) ((181 + ((upd now_82 ((165 + (now_82 (164 : Int32).toNatClampNeg)) : Int32).toNatClampNeg x1) (164 : Int32).toNatClampNeg)) : Int32).toNatClampNeg x2) ((197 + ((upd (upd now_82 ((165 + (now_82 (164 : Int32).toNatClampNeg)) : Int32).toNatClampNeg x1) ((181 + ((upd now_82 ((165 + (now_82 (164 : Int32).toNatClampNeg)) : Int32).toNatClampNeg x1) (164 : Int32).toNatClampNeg)) : Int32).toNatClampNeg x2) (164 : Int32).toNatClampNeg)) : Int32).toNatClampNeg ((upd (upd now_82 ((165 + (now_82 (164 : Int32).toNatClampNeg)) : Int32).toNatClampNeg x1) ((181 + ((upd now_82 ((165 + (now_82 (164 : Int32).toNatClampNeg)) : Int32).toNatClampNeg x1) (164 : Int32).toNatClampNeg)) : Int32).toNatClampNeg x2) (0 : Int32).toNatClampNeg)) (164 : Int32).toNatClampNeg (((upd (upd (upd now_82 ((165 + (now_82 (164 : Int32).toNatClampNeg)) : Int32).toNatClampNeg x1) ((181 + ((upd now_82 ((165 + (now_82 (164 : Int32).toNatClampNeg)) : Int32).toNatClampNeg x1) (164 : Int32).toNatClampNeg)) : Int32).toNatClampNeg x2) ((197 + ((upd (upd now_82 ((165 + (now_82 (164 : Int32).toNatClampNeg)) : Int32).toNatClampNeg x1) ((181 + ((upd now_82 ((165 + (now_82 (164 : Int32).toNatClampNeg)) : Int32).toNatClampNeg x1) (164 : Int32).toNatClampNeg)) : Int32).toNatClampNeg x2) (164 : Int32).toNatClampNeg)) : Int32).toNatClampNeg ((upd (upd now_82 ((165 + (now_82 (164 : Int32).toNatClampNeg)) : Int32).toNatClampNeg x1) ((181 + ((upd now_82 ((165 + (now_82 (164 : Int32).toNatClampNeg)) : Int32).toNatClampNeg x1) (164 : Int32).toNatClampNeg)) : Int32).toNatClampNeg x2) (0 : Int32).toNatClampNeg)) (164 : Int32).toNatClampNeg) + 1))) H := hP
    have hD : va_D A (w_X9_notes kc a0 a1 a2 a3 a4 a5 a6 a7 a8 a9 a10 a11 a12 a13 a14 a15 a16 a17 a18 a19 a20 a21 a22 a23 a24 a25 a26 a27 a28 thrown loftSize startWind seed draftLoft draftStart draftSeed length textSize start next_ token value error errorAt number undos (upd (upd (upd (upd now_82 ((165 + (now_82 (164 : Int32).toNatClampNeg)) : Int32).toNatClampNeg x1) ((181 + ((upd now_82 ((165 + (now_82 (164 : Int32).toNatClampNeg)) : Int32).toNatClampNeg x1) (164 : Int32).toNatClampNeg)) : Int32).toNatClampNeg x2) ((197 + ((upd (upd now_82 ((165 + (now_82 (164 : Int32).toNatClampNeg)) : Int32).toNatClampNeg x1) ((181 + ((upd now_82 ((165 + (now_82 (164 : Int32).toNatClampNeg)) : Int32).toNatClampNeg x1) (164 : Int32).toNatClampNeg)) : Int32).toNatClampNeg x2) (164 : Int32).toNatClampNeg)) : Int32).toNatClampNeg ((upd (upd now_82 ((165 + (now_82 (164 : Int32).toNatClampNeg)) : Int32).toNatClampNeg x1) ((181 + ((upd now_82 ((165 + (now_82 (164 : Int32).toNatClampNeg)) : Int32).toNatClampNeg x1) (164 : Int32).toNatClampNeg)) : Int32).toNatClampNeg x2) (0 : Int32).toNatClampNeg)) (164 : Int32).toNatClampNeg (((upd (upd (upd now_82 ((165 + (now_82 (164 : Int32).toNatClampNeg)) : Int32).toNatClampNeg x1) ((181 + ((upd now_82 ((165 + (now_82 (164 : Int32).toNatClampNeg)) : Int32).toNatClampNeg x1) (164 : Int32).toNatClampNeg)) : Int32).toNatClampNeg x2) ((197 + ((upd (upd now_82 ((165 + (now_82 (164 : Int32).toNatClampNeg)) : Int32).toNatClampNeg x1) ((181 + ((upd now_82 ((165 + (now_82 (164 : Int32).toNatClampNeg)) : Int32).toNatClampNeg x1) (164 : Int32).toNatClampNeg)) : Int32).toNatClampNeg x2) (164 : Int32).toNatClampNeg)) : Int32).toNatClampNeg ((upd (upd now_82 ((165 + (now_82 (164 : Int32).toNatClampNeg)) : Int32).toNatClampNeg x1) ((181 + ((upd now_82 ((165 + (now_82 (164 : Int32).toNatClampNeg)) : Int32).toNatClampNeg x1) (164 : Int32).toNatClampNeg)) : Int32).toNatClampNeg x2) (0 : Int32).toNatClampNeg)) (164 : Int32).toNatClampNeg) + 1))) := hD
    cases hf
    exact kR _ _ _ _ hP hD hS dX9_notes_153
  unfold f_X9_notes at hf
  refine lv_aload_n hx hb dX9_notes_0 rfl (lv_at hl 0 rfl) ?_
  refine va_get (D := D) (ci := 9) (v := .ref a1) (C := RX9) (T := TX9) (N := 45) hx hb hts in_X9 hown hK hP 0 rfl rfl 1 (by decide) lk_13 (fun _ h9 => h9) rfl dX9_notes_1 ?_
  refine lv_sipush (v := 164) hx hb dX9_notes_4 (by decide) ?_
  obtain ⟨hi, hf⟩ := gIx_some hf
  refine va_iald hx hb hK hP 1 1 rfl rfl hi dX9_notes_7 ?_
  refine lv_bipush (v := 16) hx hb dX9_notes_8 (by decide) ?_
  refine lv_icmp_ne (tgt := 82) hx hb dX9_notes_10 (by decide) (fun hc => ?_) (fun hc => ?_)
  · have hf := o_f hc hf
    exact J82 _ hf _ _ _ hP hD hS (lv_sub hl [0, 1, 2] rfl)
  · have hf := o_t hc hf
    refine lv_aload_n hx hb dX9_notes_13 rfl (lv_at hl 0 rfl) ?_
    refine va_get (D := D) (ci := 9) (v := .ref a1) (C := RX9) (T := TX9) (N := 45) hx hb hts in_X9 hown hK hP 0 rfl rfl 1 (by decide) lk_13 (fun _ h9 => h9) rfl dX9_notes_14 ?_
    refine lv_sipush (v := 164) hx hb dX9_notes_17 (by decide) ?_
    refine lv_dup2_11 hx hb dX9_notes_20 rfl rfl ?_
    obtain ⟨hi, hf⟩ := gIx_some hf
    refine va_iald hx hb hK hP 1 1 rfl rfl hi dX9_notes_21 ?_
    refine lv_iconst (v := 1) hx hb dX9_notes_22 (by decide) ?_
    refine lv_isub hx hb dX9_notes_23 ?_
    obtain ⟨hi, hf⟩ := gIx_some hf
    refine va_iast hx hb hK hP hD hS 1 1 rfl rfl hi dX9_notes_24 (fun H locs hP hD hS => ?_)
    have hP : va_P D vwCl (w_X9_notes kc a0 a1 a2 a3 a4 a5 a6 a7 a8 a9 a10 a11 a12 a13 a14 a15 a16 a17 a18 a19 a20 a21 a22 a23 a24 a25 a26 a27 a28 thrown loftSize startWind seed draftLoft draftStart draftSeed length textSize start next_ token value error errorAt number undos (upd now (164 : Int32).toNatClampNeg ((now (164 : Int32).toNatClampNeg) - 1))) H := hP
    have hD : va_D A (w_X9_notes kc a0 a1 a2 a3 a4 a5 a6 a7 a8 a9 a10 a11 a12 a13 a14 a15 a16 a17 a18 a19 a20 a21 a22 a23 a24 a25 a26 a27 a28 thrown loftSize startWind seed draftLoft draftStart draftSeed length textSize start next_ token value error errorAt number undos (upd now (164 : Int32).toNatClampNeg ((now (164 : Int32).toNatClampNeg) - 1))) := hD
    refine lv_aload_n hx hb dX9_notes_25 rfl (lv_at hl 0 rfl) ?_
    refine va_get (D := D) (ci := 9) (v := .ref a1) (C := RX9) (T := TX9) (N := 45) hx hb hts in_X9 hown hK hP 0 rfl rfl 1 (by decide) lk_13 (fun _ h9 => h9) rfl dX9_notes_26 ?_
    refine lv_sipush (v := 166) hx hb dX9_notes_29 (by decide) ?_
    refine lv_aload_n hx hb dX9_notes_32 rfl (lv_at hl 0 rfl) ?_
    refine va_get (D := D) (ci := 9) (v := .ref a1) (C := RX9) (T := TX9) (N := 45) hx hb hts in_X9 hown hK hP 0 rfl rfl 1 (by decide) lk_13 (fun _ h9 => h9) rfl dX9_notes_33 ?_
    refine lv_sipush (v := 165) hx hb dX9_notes_36 (by decide) ?_
    refine lv_bipush (v := 15) hx hb dX9_notes_39 (by decide) ?_
    obtain ⟨now_1, hc, hf⟩ := ob1_some hf
    refine g_SV (As := [.ref a1, .int 166, .ref a1, .int 165, .int 15]) (rest := []) (ws' := (w_X9_notes kc a0 a1 a2 a3 a4 a5 a6 a7 a8 a9 a10 a11 a12 a13 a14 a15 a16 a17 a18 a19 a20 a21 a22 a23 a24 a25 a26 a27 a28 thrown loftSize startWind seed draftLoft draftStart draftSeed length textSize start next_ token value error errorAt number undos now_1)) ⟨hx, hb, hml, hown, hts⟩ hN hK hP hD hS hA (c_X9_copies_al l D kc N a1 213 (upd now (164 : Int32).toNatClampNeg ((now (164 : Int32).toNatClampNeg) - 1)) 166 165 15 now_1 hc) (va_cwS 5 hts gX9_notes_X9_copies rfl rfl rfl (by decide +kernel) ⟨Nat.le_of_ble_eq_true rfl, Nat.le_of_ble_eq_true rfl⟩) [1] [0] [0, 1] (by exact ⟨rfl, rfl, by decide, rfl⟩) rfl hl.1 rfl (Nat.le_of_ble_eq_true rfl) dX9_notes_41 ⟨Nat.le_refl _, Nat.le_refl _⟩ (fun H locs hP hD hS => ?_)
    refine lv_aload_n hx hb dX9_notes_44 rfl (lv_at hl 0 rfl) ?_
    refine va_get (D := D) (ci := 9) (v := .ref a1) (C := RX9) (T := TX9) (N := 45) hx hb hts in_X9 hown hK hP 0 rfl rfl 1 (by decide) lk_13 (fun _ h9 => h9) rfl dX9_notes_45 ?_
    refine lv_sipush (v := 182) hx hb dX9_notes_48 (by decide) ?_
    refine lv_aload_n hx hb dX9_notes_51 rfl (lv_at hl 0 rfl) ?_
    refine va_get (D := D) (ci := 9) (v := .ref a1) (C := RX9) (T := TX9) (N := 45) hx hb hts in_X9 hown hK hP 0 rfl rfl 1 (by decide) lk_13 (fun _ h9 => h9) rfl dX9_notes_52 ?_
    refine lv_sipush (v := 181) hx hb dX9_notes_55 (by decide) ?_
    refine lv_bipush (v := 15) hx hb dX9_notes_58 (by decide) ?_
    obtain ⟨now_2, hc, hf⟩ := ob1_some hf
    refine g_SV (As := [.ref a1, .int 182, .ref a1, .int 181, .int 15]) (rest := []) (ws' := (w_X9_notes kc a0 a1 a2 a3 a4 a5 a6 a7 a8 a9 a10 a11 a12 a13 a14 a15 a16 a17 a18 a19 a20 a21 a22 a23 a24 a25 a26 a27 a28 thrown loftSize startWind seed draftLoft draftStart draftSeed length textSize start next_ token value error errorAt number undos now_2)) ⟨hx, hb, hml, hown, hts⟩ hN hK hP hD hS hA (c_X9_copies_al l D kc N a1 213 now_1 182 181 15 now_2 hc) (va_cwS 5 hts gX9_notes_X9_copies rfl rfl rfl (by decide +kernel) ⟨Nat.le_of_ble_eq_true rfl, Nat.le_of_ble_eq_true rfl⟩) [1] [0] [0, 1] (by exact ⟨rfl, rfl, by decide, rfl⟩) rfl hl.1 rfl (Nat.le_of_ble_eq_true rfl) dX9_notes_60 ⟨Nat.le_refl _, Nat.le_refl _⟩ (fun H locs hP hD hS => ?_)
    refine lv_aload_n hx hb dX9_notes_63 rfl (lv_at hl 0 rfl) ?_
    refine va_get (D := D) (ci := 9) (v := .ref a1) (C := RX9) (T := TX9) (N := 45) hx hb hts in_X9 hown hK hP 0 rfl rfl 1 (by decide) lk_13 (fun _ h9 => h9) rfl dX9_notes_64 ?_
    refine lv_sipush (v := 198) hx hb dX9_notes_67 (by decide) ?_
    refine lv_aload_n hx hb dX9_notes_70 rfl (lv_at hl 0 rfl) ?_
    refine va_get (D := D) (ci := 9) (v := .ref a1) (C := RX9) (T := TX9) (N := 45) hx hb hts in_X9 hown hK hP 0 rfl rfl 1 (by decide) lk_13 (fun _ h9 => h9) rfl dX9_notes_71 ?_
    refine lv_sipush (v := 197) hx hb dX9_notes_74 (by decide) ?_
    refine lv_bipush (v := 15) hx hb dX9_notes_77 (by decide) ?_
    obtain ⟨now_3, hc, hf⟩ := ob1_some hf
    refine g_SV (As := [.ref a1, .int 198, .ref a1, .int 197, .int 15]) (rest := []) (ws' := (w_X9_notes kc a0 a1 a2 a3 a4 a5 a6 a7 a8 a9 a10 a11 a12 a13 a14 a15 a16 a17 a18 a19 a20 a21 a22 a23 a24 a25 a26 a27 a28 thrown loftSize startWind seed draftLoft draftStart draftSeed length textSize start next_ token value error errorAt number undos now_3)) ⟨hx, hb, hml, hown, hts⟩ hN hK hP hD hS hA (c_X9_copies_al l D kc N a1 213 now_2 198 197 15 now_3 hc) (va_cwS 5 hts gX9_notes_X9_copies rfl rfl rfl (by decide +kernel) ⟨Nat.le_of_ble_eq_true rfl, Nat.le_of_ble_eq_true rfl⟩) [1] [0] [0, 1] (by exact ⟨rfl, rfl, by decide, rfl⟩) rfl hl.1 rfl (Nat.le_of_ble_eq_true rfl) dX9_notes_79 ⟨Nat.le_refl _, Nat.le_refl _⟩ (fun H locs hP hD hS => ?_)
    exact J82 _ hf _ _ _ hP hD hS (lv_sub hl [0, 1, 2] rfl)
abbrev w_X9_become (kc : Nat → ClassId) (a0 a1 a2 a3 a4 a5 a6 a7 a8 a9 a10 a11 a12 a13 a14 a15 a16 a17 a18 a19 a20 a21 a22 a23 a24 a25 a26 a27 a28 : Nat) (thrown : Int32) (loftSize : Int32) (startWind : Int32) (seed : Int32) (draftLoft : Int32) (draftStart : Int32) (draftSeed : Int32) (length : Int32) (textSize : Int32) (start : Int32) (next_ : Int32) (token : Int32) (value : Int32) (error : Int32) (errorAt : Int32) (number : Int32) (undos : Int32) (letters : Nat → Int32) (now : Nat → Int32) : va_W := [(a0, .inr (9, [.int thrown, .ref a1, .ref a2, .ref a3, .ref a4, .ref a5, .ref a6, .ref a7, .ref a8, .ref a9, .ref a10, .ref a11, .ref a12, .ref a13, .ref a14, .ref a15, .ref a16, .ref a17, .ref a18, .ref a19, .int loftSize, .int startWind, .int seed, .int draftLoft, .int draftStart, .int draftSeed, .ref a20, .int length, .int textSize, .int start, .int next_, .int token, .int value, .int error, .int errorAt, .int number, .ref a21, .ref a22, .ref a23, .ref a24, .ref a25, .int undos, .ref a26, .ref a27, .ref a28])), (a17, .inl (kc 1, 2, .inl letters)), (a1, .inl (kc 1, 213, .inl now))]
set_option maxHeartbeats 4000000 in
set_option maxRecDepth 100000 in
theorem c_X9_become (l : Launch) (D : va_G) (kc : Nat → ClassId) (N : Nat) (a0 a1 a2 a3 a4 a5 a6 a7 a8 a9 a10 a11 a12 a13 a14 a15 a16 a17 a18 a19 a20 a21 a22 a23 a24 a25 a26 a27 a28 : Nat) (thrown : Int32) (loftSize : Int32) (startWind : Int32) (seed : Int32) (draftLoft : Int32) (draftStart : Int32) (draftSeed : Int32) (length : Int32) (textSize : Int32) (start : Int32) (next_ : Int32) (token : Int32) (value : Int32) (error : Int32) (errorAt : Int32) (number : Int32) (undos : Int32) (letters : Nat → Int32) (now : Nat → Int32) (x1 : Int32) (x2 : Int32) (now' : Nat → Int32) (hf : f_X9_become N letters now x1 x2 = some now') : MV l yX9_become wsX9_become ({ frames := 1, cells := 0, slots := 0, locals := 21 }) D kc [.ref a0, .int x1, .int x2] (w_X9_become kc a0 a1 a2 a3 a4 a5 a6 a7 a8 a9 a10 a11 a12 a13 a14 a15 a16 a17 a18 a19 a20 a21 a22 a23 a24 a25 a26 a27 a28 thrown loftSize startWind seed draftLoft draftStart draftSeed length textSize start next_ token value error errorAt number undos letters now) (w_X9_become kc a0 a1 a2 a3 a4 a5 a6 a7 a8 a9 a10 a11 a12 a13 a14 a15 a16 a17 a18 a19 a20 a21 a22 a23 a24 a25 a26 a27 a28 thrown loftSize startWind seed draftLoft draftStart draftSeed length textSize start next_ token value error errorAt number undos letters now') := by
  refine gM_V (cc := cX9_become) (maxL := 4) (by decide) rfl (Nat.le_of_ble_eq_true rfl) ?_
  intro p e s m below meth c A ls Q hx hb hml hown hts hN hK hP hD hA hl kR
  have hS : va_S A s.heap s.heap [] := va_S.rf
  have hl : lv_has ls 4 [(0, .ref a0), (1, .int x1), (2, .int x2)] := hl
  have in_X9 : ∀ w ∈ u_ws RX9 TX9 45, w ∈ wsX9_become := by decide +kernel
  have lk_62 := hts (.fieldLink RX9 62 "BalloonMailModel" "letters" "[I") (by decide +kernel)
  have lk_13 := hts (.fieldLink RX9 13 "BalloonMailModel" "now" "[I") (by decide +kernel)
  unfold f_X9_become at hf
  refine lv_iconst (v := 0) hx hb dX9_become_0 (by decide) ?_
  refine lv_istore_n (lv' := [(3, .int 0), (0, .ref a0), (1, .int x1), (2, .int x2)]) hx hb dX9_become_1 rfl hl (by decide) rfl (fun ls hl => ?_)
  have L2 : ∀ (n : Nat) (y3_2 : Int32) (now_2 : Nat → Int32) (y3_2o : Int32) (now_2o : Nat → Int32), f_X9_become_2 N letters x1 x2 n y3_2 now_2 = some (y3_2o, now_2o) → (∀ (H : Heap) (locs : List Loc) (ls : Array Slot), va_P D vwCl (w_X9_become kc a0 a1 a2 a3 a4 a5 a6 a7 a8 a9 a10 a11 a12 a13 a14 a15 a16 a17 a18 a19 a20 a21 a22 a23 a24 a25 a26 a27 a28 thrown loftSize startWind seed draftLoft draftStart draftSeed length textSize start next_ token value error errorAt number undos letters now_2o) H → va_D A (w_X9_become kc a0 a1 a2 a3 a4 a5 a6 a7 a8 a9 a10 a11 a12 a13 a14 a15 a16 a17 a18 a19 a20 a21 a22 a23 a24 a25 a26 a27 a28 thrown loftSize startWind seed draftLoft draftStart draftSeed length textSize start next_ token value error errorAt number undos letters now_2o) → va_S A s.heap H locs → lv_has ls 4 [(0, .ref a0), (1, .int x1), (2, .int x2), (3, .int y3_2o)] → W p l e ({ frames := 1, cells := 0, slots := 0, locals := 21 }) s m (([.ref a0, .int x1, .int x2] : List Value).toArray) below meth c H locs 0 0 Q (F0 m 48 ls [])) → ∀ (H : Heap) (locs : List Loc) (ls : Array Slot), va_P D vwCl (w_X9_become kc a0 a1 a2 a3 a4 a5 a6 a7 a8 a9 a10 a11 a12 a13 a14 a15 a16 a17 a18 a19 a20 a21 a22 a23 a24 a25 a26 a27 a28 thrown loftSize startWind seed draftLoft draftStart draftSeed length textSize start next_ token value error errorAt number undos letters now_2) H → va_D A (w_X9_become kc a0 a1 a2 a3 a4 a5 a6 a7 a8 a9 a10 a11 a12 a13 a14 a15 a16 a17 a18 a19 a20 a21 a22 a23 a24 a25 a26 a27 a28 thrown loftSize startWind seed draftLoft draftStart draftSeed length textSize start next_ token value error errorAt number undos letters now_2) → va_S A s.heap H locs → lv_has ls 4 [(0, .ref a0), (1, .int x1), (2, .int x2), (3, .int y3_2)] → W p l e ({ frames := 1, cells := 0, slots := 0, locals := 21 }) s m (([.ref a0, .int x1, .int x2] : List Value).toArray) below meth c H locs 0 0 Q (F0 m 2 ls []) := by
    intro n
    induction n with
    | zero => intro _ _ _ _ hf; rw [f_X9_become_2.eq_1] at hf; cases hf
    | succ n ih =>
      intro y3_2 now_2 y3_2o now_2o hf hk H locs ls hP hD hS hl
      rw [f_X9_become_2.eq_2] at hf
      refine lv_iload_n hx hb dX9_become_2 rfl (lv_at hl 3 rfl) ?_
      refine lv_aload_n hx hb dX9_become_3 rfl (lv_at hl 0 rfl) ?_
      refine va_get (D := D) (ci := 9) (v := .ref a17) (C := RX9) (T := TX9) (N := 45) hx hb hts in_X9 hown hK hP 0 rfl rfl 17 (by decide) lk_62 (fun _ h9 => h9) rfl dX9_become_4 ?_
      refine lv_iconst (v := 0) hx hb dX9_become_7 (by decide) ?_
      obtain ⟨hi, hf⟩ := gIx_some hf
      refine va_iald hx hb hK hP 1 1 rfl rfl hi dX9_become_8 ?_
      refine lv_icmp_ge (tgt := 48) hx hb dX9_become_9 (by decide) (fun hc => ?_) (fun hc => ?_)
      · have hf := o_t hc hf
        cases hf
        exact hk _ _ _ hP hD hS (lv_sub hl [0, 1, 2, 3] rfl)
      · have hf := o_f hc hf
        refine lv_aload_n hx hb dX9_become_12 rfl (lv_at hl 0 rfl) ?_
        refine va_get (D := D) (ci := 9) (v := .ref a1) (C := RX9) (T := TX9) (N := 45) hx hb hts in_X9 hown hK hP 0 rfl rfl 1 (by decide) lk_13 (fun _ h9 => h9) rfl dX9_become_13 ?_
        refine lv_bipush (v := 35) hx hb dX9_become_16 (by decide) ?_
        refine lv_iload_n hx hb dX9_become_18 rfl (lv_at hl 3 rfl) ?_
        refine lv_iadd hx hb dX9_become_19 ?_
        refine lv_iload_n hx hb dX9_become_20 rfl (lv_at hl 1 rfl) ?_
        refine lv_iload_n hx hb dX9_become_21 rfl (lv_at hl 3 rfl) ?_
        obtain ⟨r_1, hc, hf⟩ := ob1_some hf
        refine g_SZ (As := [.int x1, .int y3_2]) (rest := [.int (35 + y3_2), .ref a1]) (ws' := (w_X9_become kc a0 a1 a2 a3 a4 a5 a6 a7 a8 a9 a10 a11 a12 a13 a14 a15 a16 a17 a18 a19 a20 a21 a22 a23 a24 a25 a26 a27 a28 thrown loftSize startWind seed draftLoft draftStart draftSeed length textSize start next_ token value error errorAt number undos letters now_2)) ⟨hx, hb, hml, hown, hts⟩ hN hK hP hD hS hA (c_X9_has l D kc N x1 y3_2 r_1 hc) (va_cwS 2 hts gX9_become_X9_has rfl rfl rfl (by decide +kernel) ⟨Nat.le_of_ble_eq_true rfl, Nat.le_of_ble_eq_true rfl⟩) [] [0, 1, 2] [0, 1, 2] (by exact ⟨rfl, rfl, by decide, rfl⟩) rfl hl.1 rfl (Nat.le_of_ble_eq_true rfl) dX9_become_22 ⟨Nat.le_refl _, Nat.le_refl _⟩ (fun H locs hz hP hD hS => ?_)
        have hz_2 := hz
        refine lv_if_eq (tgt := 32) hx hb dX9_become_25 (by decide) (fun hc => ?_) (fun hc => ?_)
        · have hf := o_t hc hf
          refine lv_aload_n hx hb dX9_become_32 rfl (lv_at hl 0 rfl) ?_
          refine va_get (D := D) (ci := 9) (v := .ref a1) (C := RX9) (T := TX9) (N := 45) hx hb hts in_X9 hown hK hP 0 rfl rfl 1 (by decide) lk_13 (fun _ h9 => h9) rfl dX9_become_33 ?_
          refine lv_bipush (v := 35) hx hb dX9_become_36 (by decide) ?_
          refine lv_iload_n hx hb dX9_become_38 rfl (lv_at hl 3 rfl) ?_
          refine lv_iadd hx hb dX9_become_39 ?_
          obtain ⟨hi, hf⟩ := gIx_some hf
          refine va_iald hx hb hK hP 2 1 rfl rfl hi dX9_become_40 ?_
          obtain ⟨hi, hf⟩ := gIx_some hf
          refine va_iast hx hb hK hP hD hS 2 1 rfl rfl hi dX9_become_41 (fun H locs hP hD hS => ?_)
          have hP : va_P D vwCl (w_X9_become kc a0 a1 a2 a3 a4 a5 a6 a7 a8 a9 a10 a11 a12 a13 a14 a15 a16 a17 a18 a19 a20 a21 a22 a23 a24 a25 a26 a27 a28 thrown loftSize startWind seed draftLoft draftStart draftSeed length textSize start next_ token value error errorAt number undos letters (upd now_2 ((35 + y3_2) : Int32).toNatClampNeg (now_2 ((35 + y3_2) : Int32).toNatClampNeg))) H := hP
          have hD : va_D A (w_X9_become kc a0 a1 a2 a3 a4 a5 a6 a7 a8 a9 a10 a11 a12 a13 a14 a15 a16 a17 a18 a19 a20 a21 a22 a23 a24 a25 a26 a27 a28 thrown loftSize startWind seed draftLoft draftStart draftSeed length textSize start next_ token value error errorAt number undos letters (upd now_2 ((35 + y3_2) : Int32).toNatClampNeg (now_2 ((35 + y3_2) : Int32).toNatClampNeg))) := hD
          refine lv_iinc (v := (y3_2 + 1)) (lv' := [(3, .int (y3_2 + 1)), (0, .ref a0), (1, .int x1), (2, .int x2)]) hx hb dX9_become_42 hl (k := 3) rfl (by rfl) (by decide) rfl (fun ls hl => ?_)
          refine lv_goto (tgt := 2) hx hb dX9_become_45 (by decide) ?_
          exact ih _ _ _ _ hf hk _ _ _ hP hD hS (lv_sub hl [1, 2, 3, 0] rfl)
        · have hf := o_f hc hf
          refine lv_iload_n hx hb dX9_become_28 rfl (lv_at hl 2 rfl) ?_
          refine lv_goto (tgt := 41) hx hb dX9_become_29 (by decide) ?_
          obtain ⟨hi, hf⟩ := gIx_some hf
          refine va_iast hx hb hK hP hD hS 2 1 rfl rfl hi dX9_become_41 (fun H locs hP hD hS => ?_)
          have hP : va_P D vwCl (w_X9_become kc a0 a1 a2 a3 a4 a5 a6 a7 a8 a9 a10 a11 a12 a13 a14 a15 a16 a17 a18 a19 a20 a21 a22 a23 a24 a25 a26 a27 a28 thrown loftSize startWind seed draftLoft draftStart draftSeed length textSize start next_ token value error errorAt number undos letters (upd now_2 ((35 + y3_2) : Int32).toNatClampNeg x2)) H := hP
          have hD : va_D A (w_X9_become kc a0 a1 a2 a3 a4 a5 a6 a7 a8 a9 a10 a11 a12 a13 a14 a15 a16 a17 a18 a19 a20 a21 a22 a23 a24 a25 a26 a27 a28 thrown loftSize startWind seed draftLoft draftStart draftSeed length textSize start next_ token value error errorAt number undos letters (upd now_2 ((35 + y3_2) : Int32).toNatClampNeg x2)) := hD
          refine lv_iinc (v := (y3_2 + 1)) (lv' := [(3, .int (y3_2 + 1)), (0, .ref a0), (1, .int x1), (2, .int x2)]) hx hb dX9_become_42 hl (k := 3) rfl (by rfl) (by decide) rfl (fun ls hl => ?_)
          refine lv_goto (tgt := 2) hx hb dX9_become_45 (by decide) ?_
          exact ih _ _ _ _ hf hk _ _ _ hP hD hS (lv_sub hl [1, 2, 3, 0] rfl)
  obtain ⟨y3_2o, now_2o, hc, hf⟩ := ob2_some hf
  refine L2 N _ _ _ _ hc (fun H locs ls hP hD hS hl => ?_) _ _ _ hP hD hS (lv_sub hl [1, 2, 3, 0] rfl)
  cases hf
  exact kR _ _ _ _ hP hD hS dX9_become_48
abbrev w_X9_regionDrawn (kc : Nat → ClassId) (a0 a1 a2 a3 a4 a5 a6 a7 a8 a9 a10 a11 a12 a13 a14 a15 a16 a17 a18 a19 a20 a21 a22 a23 a24 a25 a26 a27 a28 : Nat) (thrown : Int32) (loftSize : Int32) (startWind : Int32) (seed : Int32) (draftLoft : Int32) (draftStart : Int32) (draftSeed : Int32) (length : Int32) (textSize : Int32) (start : Int32) (next_ : Int32) (token : Int32) (value : Int32) (error : Int32) (errorAt : Int32) (number : Int32) (undos : Int32) (now : Nat → Int32) (named : Nat → Int32) (namedWeight : Nat → Int32) (namedRegion : Nat → Int32) : va_W := [(a0, .inr (9, [.int thrown, .ref a1, .ref a2, .ref a3, .ref a4, .ref a5, .ref a6, .ref a7, .ref a8, .ref a9, .ref a10, .ref a11, .ref a12, .ref a13, .ref a14, .ref a15, .ref a16, .ref a17, .ref a18, .ref a19, .int loftSize, .int startWind, .int seed, .int draftLoft, .int draftStart, .int draftSeed, .ref a20, .int length, .int textSize, .int start, .int next_, .int token, .int value, .int error, .int errorAt, .int number, .ref a21, .ref a22, .ref a23, .ref a24, .ref a25, .int undos, .ref a26, .ref a27, .ref a28])), (a1, .inl (kc 1, 213, .inl now)), (a7, .inl (kc 1, 12, .inl named)), (a9, .inl (kc 1, 96, .inl namedWeight)), (a8, .inl (kc 1, 96, .inl namedRegion))]
set_option maxHeartbeats 4000000 in
set_option maxRecDepth 100000 in
theorem c_X9_regionDrawn (l : Launch) (D : va_G) (kc : Nat → ClassId) (N : Nat) (a0 a1 a2 a3 a4 a5 a6 a7 a8 a9 a10 a11 a12 a13 a14 a15 a16 a17 a18 a19 a20 a21 a22 a23 a24 a25 a26 a27 a28 : Nat) (thrown : Int32) (loftSize : Int32) (startWind : Int32) (seed : Int32) (draftLoft : Int32) (draftStart : Int32) (draftSeed : Int32) (length : Int32) (textSize : Int32) (start : Int32) (next_ : Int32) (token : Int32) (value : Int32) (error : Int32) (errorAt : Int32) (number : Int32) (undos : Int32) (now : Nat → Int32) (named : Nat → Int32) (namedWeight : Nat → Int32) (namedRegion : Nat → Int32) (r_ : Int32) (now' : Nat → Int32) (hf : f_X9_regionDrawn N now named namedWeight namedRegion = some (r_, now')) : MI l yX9_regionDrawn wsX9_regionDrawn ({ frames := 1, cells := 0, slots := 0, locals := 22 }) D kc [.ref a0] (w_X9_regionDrawn kc a0 a1 a2 a3 a4 a5 a6 a7 a8 a9 a10 a11 a12 a13 a14 a15 a16 a17 a18 a19 a20 a21 a22 a23 a24 a25 a26 a27 a28 thrown loftSize startWind seed draftLoft draftStart draftSeed length textSize start next_ token value error errorAt number undos now named namedWeight namedRegion) (w_X9_regionDrawn kc a0 a1 a2 a3 a4 a5 a6 a7 a8 a9 a10 a11 a12 a13 a14 a15 a16 a17 a18 a19 a20 a21 a22 a23 a24 a25 a26 a27 a28 thrown loftSize startWind seed draftLoft draftStart draftSeed length textSize start next_ token value error errorAt number undos now' named namedWeight namedRegion) r_ := by
  refine gM_I (cc := cX9_regionDrawn) (maxL := 4) (by decide) rfl (Nat.le_of_ble_eq_true rfl) ?_
  intro p e s m below meth c A ls Q hx hb hml hown hts hN hK hP hD hA hl kR
  have hS : va_S A s.heap s.heap [] := va_S.rf
  have hl : lv_has ls 4 [(0, .ref a0)] := hl
  have in_X9 : ∀ w ∈ u_ws RX9 TX9 45, w ∈ wsX9_regionDrawn := by decide +kernel
  have lk_13 := hts (.fieldLink RX9 13 "BalloonMailModel" "now" "[I") (by decide +kernel)
  have lk_32 := hts (.fieldLink RX9 32 "BalloonMailModel" "named" "[I") (by decide +kernel)
  have lk_38 := hts (.fieldLink RX9 38 "BalloonMailModel" "namedWeight" "[I") (by decide +kernel)
  have lk_35 := hts (.fieldLink RX9 35 "BalloonMailModel" "namedRegion" "[I") (by decide +kernel)
  unfold f_X9_regionDrawn at hf
  refine lv_aload_n hx hb dX9_regionDrawn_0 rfl (lv_at hl 0 rfl) ?_
  refine va_get (D := D) (ci := 9) (v := .ref a1) (C := RX9) (T := TX9) (N := 45) hx hb hts in_X9 hown hK hP 0 rfl rfl 1 (by decide) lk_13 (fun _ h9 => h9) rfl dX9_regionDrawn_1 ?_
  refine lv_iconst (v := 1) hx hb dX9_regionDrawn_4 (by decide) ?_
  obtain ⟨hi, hf⟩ := gIx_some hf
  refine va_iald hx hb hK hP 1 1 rfl rfl hi dX9_regionDrawn_5 ?_
  refine lv_istore_n (lv' := [(1, .int (now (1 : Int32).toNatClampNeg)), (0, .ref a0)]) hx hb dX9_regionDrawn_6 rfl hl (by decide) rfl (fun ls hl => ?_)
  refine lv_aload_n hx hb dX9_regionDrawn_7 rfl (lv_at hl 1 rfl) ?_
  obtain ⟨r_1, now_2, hc, hf⟩ := ob2_some hf
  refine g_VI (As := []) (rest := []) (ws' := (w_X9_regionDrawn kc a0 a1 a2 a3 a4 a5 a6 a7 a8 a9 a10 a11 a12 a13 a14 a15 a16 a17 a18 a19 a20 a21 a22 a23 a24 a25 a26 a27 a28 thrown loftSize startWind seed draftLoft draftStart draftSeed length textSize start next_ token value error errorAt number undos now_2 named namedWeight namedRegion)) ⟨hx, hb, hml, hown, hts⟩ hN hK hP hD hS hA (c_X9_draw l D kc N a0 a1 a2 a3 a4 a5 a6 a7 a8 a9 a10 a11 a12 a13 a14 a15 a16 a17 a18 a19 a20 a21 a22 a23 a24 a25 a26 a27 a28 thrown loftSize startWind seed draftLoft draftStart draftSeed length textSize start next_ token value error errorAt number undos now r_1 now_2 hc) (cwV 0 hts gX9_regionDrawn_X9_draw rfl rfl rfl (by decide +kernel) ⟨Nat.le_of_ble_eq_true rfl, Nat.le_of_ble_eq_true rfl⟩) [0, 1] [2, 3, 4] [3, 4, 0, 1, 2] (by exact ⟨rfl, rfl, by decide, rfl⟩) 0 9 rfl rfl rfl rfl hl.1 rfl (Nat.le_of_ble_eq_true rfl) dX9_regionDrawn_8 ⟨Nat.le_refl _, Nat.le_refl _⟩ (fun H locs hP hD hS => ?_)
  refine lv_istore_n (lv' := [(2, .int r_1), (1, .int (now (1 : Int32).toNatClampNeg)), (0, .ref a0)]) hx hb dX9_regionDrawn_11 rfl hl (by decide) rfl (fun ls hl => ?_)
  refine lv_iconst (v := 0) hx hb dX9_regionDrawn_12 (by decide) ?_
  refine lv_istore_n (lv' := [(3, .int 0), (2, .int r_1), (1, .int (now (1 : Int32).toNatClampNeg)), (0, .ref a0)]) hx hb dX9_regionDrawn_13 rfl hl (by decide) rfl (fun ls hl => ?_)
  have L14 : ∀ (z1_14 : Int32) (n : Nat) (y3_14 : Int32) (y2_14 : Int32), f_X9_regionDrawn_14 N named namedWeight namedRegion now_2 z1_14 n y3_14 y2_14 = some (r_, now') → ∀ (H : Heap) (locs : List Loc) (ls : Array Slot), va_P D vwCl (w_X9_regionDrawn kc a0 a1 a2 a3 a4 a5 a6 a7 a8 a9 a10 a11 a12 a13 a14 a15 a16 a17 a18 a19 a20 a21 a22 a23 a24 a25 a26 a27 a28 thrown loftSize startWind seed draftLoft draftStart draftSeed length textSize start next_ token value error errorAt number undos now_2 named namedWeight namedRegion) H → va_D A (w_X9_regionDrawn kc a0 a1 a2 a3 a4 a5 a6 a7 a8 a9 a10 a11 a12 a13 a14 a15 a16 a17 a18 a19 a20 a21 a22 a23 a24 a25 a26 a27 a28 thrown loftSize startWind seed draftLoft draftStart draftSeed length textSize start next_ token value error errorAt number undos now_2 named namedWeight namedRegion) → va_S A s.heap H locs → lv_has ls 4 [(0, .ref a0), (1, .int z1_14), (2, .int y2_14), (3, .int y3_14)] → W p l e ({ frames := 1, cells := 0, slots := 0, locals := 22 }) s m (([.ref a0] : List Value).toArray) below meth c H locs 0 0 Q (F0 m 14 ls []) := by
    clear hf
    intro z1_14 n
    induction n with
    | zero => intro _ _ hf; rw [f_X9_regionDrawn_14.eq_1] at hf; cases hf
    | succ n ih =>
      intro y3_14 y2_14 hf H locs ls hP hD hS hl
      rw [f_X9_regionDrawn_14.eq_2] at hf
      refine lv_iload_n hx hb dX9_regionDrawn_14 rfl (lv_at hl 3 rfl) ?_
      refine lv_aload_n hx hb dX9_regionDrawn_15 rfl (lv_at hl 0 rfl) ?_
      refine va_get (D := D) (ci := 9) (v := .ref a7) (C := RX9) (T := TX9) (N := 45) hx hb hts in_X9 hown hK hP 0 rfl rfl 7 (by decide) lk_32 (fun _ h9 => h9) rfl dX9_regionDrawn_16 ?_
      refine lv_iload_n hx hb dX9_regionDrawn_19 rfl (lv_at hl 1 rfl) ?_
      obtain ⟨hi, hf⟩ := gIx_some hf
      refine va_iald hx hb hK hP 2 1 rfl rfl hi dX9_regionDrawn_20 ?_
      refine lv_icmp_ge (tgt := 71) hx hb dX9_regionDrawn_21 (by decide) (fun hc => ?_) (fun hc => ?_)
      · have hf := o_t hc hf
        refine lv_bipush (v := (-2)) hx hb dX9_regionDrawn_71 (by decide) ?_
        cases hf
        exact kR _ _ _ _ hP hD hS dX9_regionDrawn_73
      · have hf := o_f hc hf
        refine lv_iload_n hx hb dX9_regionDrawn_24 rfl (lv_at hl 2 rfl) ?_
        refine lv_aload_n hx hb dX9_regionDrawn_25 rfl (lv_at hl 0 rfl) ?_
        refine va_get (D := D) (ci := 9) (v := .ref a9) (C := RX9) (T := TX9) (N := 45) hx hb hts in_X9 hown hK hP 0 rfl rfl 9 (by decide) lk_38 (fun _ h9 => h9) rfl dX9_regionDrawn_26 ?_
        refine lv_bipush (v := 8) hx hb dX9_regionDrawn_29 (by decide) ?_
        refine lv_iload_n hx hb dX9_regionDrawn_31 rfl (lv_at hl 1 rfl) ?_
        refine lv_imul hx hb dX9_regionDrawn_32 ?_
        refine lv_iload_n hx hb dX9_regionDrawn_33 rfl (lv_at hl 3 rfl) ?_
        refine lv_iadd hx hb dX9_regionDrawn_34 ?_
        obtain ⟨hi, hf⟩ := gIx_some hf
        refine va_iald hx hb hK hP 3 1 rfl rfl hi dX9_regionDrawn_35 ?_
        refine lv_icmp_ge (tgt := 51) hx hb dX9_regionDrawn_36 (by decide) (fun hc => ?_) (fun hc => ?_)
        · have hf := o_t hc hf
          refine lv_iload_n hx hb dX9_regionDrawn_51 rfl (lv_at hl 2 rfl) ?_
          refine lv_aload_n hx hb dX9_regionDrawn_52 rfl (lv_at hl 0 rfl) ?_
          refine va_get (D := D) (ci := 9) (v := .ref a9) (C := RX9) (T := TX9) (N := 45) hx hb hts in_X9 hown hK hP 0 rfl rfl 9 (by decide) lk_38 (fun _ h9 => h9) rfl dX9_regionDrawn_53 ?_
          refine lv_bipush (v := 8) hx hb dX9_regionDrawn_56 (by decide) ?_
          refine lv_iload_n hx hb dX9_regionDrawn_58 rfl (lv_at hl 1 rfl) ?_
          refine lv_imul hx hb dX9_regionDrawn_59 ?_
          refine lv_iload_n hx hb dX9_regionDrawn_60 rfl (lv_at hl 3 rfl) ?_
          refine lv_iadd hx hb dX9_regionDrawn_61 ?_
          obtain ⟨hi, hf⟩ := gIx_some hf
          refine va_iald hx hb hK hP 3 1 rfl rfl hi dX9_regionDrawn_62 ?_
          refine lv_isub hx hb dX9_regionDrawn_63 ?_
          refine lv_istore_n (lv' := [(2, .int (y2_14 - (namedWeight (((8 * z1_14) + y3_14) : Int32).toNatClampNeg))), (0, .ref a0), (1, .int z1_14), (3, .int y3_14)]) hx hb dX9_regionDrawn_64 rfl hl (by decide) rfl (fun ls hl => ?_)
          refine lv_iinc (v := (y3_14 + 1)) (lv' := [(3, .int (y3_14 + 1)), (2, .int (y2_14 - (namedWeight (((8 * z1_14) + y3_14) : Int32).toNatClampNeg))), (0, .ref a0), (1, .int z1_14)]) hx hb dX9_regionDrawn_65 hl (k := 3) rfl (by rfl) (by decide) rfl (fun ls hl => ?_)
          refine lv_goto (tgt := 14) hx hb dX9_regionDrawn_68 (by decide) ?_
          exact ih _ _ hf _ _ _ hP hD hS (lv_sub hl [2, 3, 1, 0] rfl)
        · have hf := o_f hc hf
          refine lv_aload_n hx hb dX9_regionDrawn_39 rfl (lv_at hl 0 rfl) ?_
          refine va_get (D := D) (ci := 9) (v := .ref a8) (C := RX9) (T := TX9) (N := 45) hx hb hts in_X9 hown hK hP 0 rfl rfl 8 (by decide) lk_35 (fun _ h9 => h9) rfl dX9_regionDrawn_40 ?_
          refine lv_bipush (v := 8) hx hb dX9_regionDrawn_43 (by decide) ?_
          refine lv_iload_n hx hb dX9_regionDrawn_45 rfl (lv_at hl 1 rfl) ?_
          refine lv_imul hx hb dX9_regionDrawn_46 ?_
          refine lv_iload_n hx hb dX9_regionDrawn_47 rfl (lv_at hl 3 rfl) ?_
          refine lv_iadd hx hb dX9_regionDrawn_48 ?_
          obtain ⟨hi, hf⟩ := gIx_some hf
          refine va_iald hx hb hK hP 4 1 rfl rfl hi dX9_regionDrawn_49 ?_
          cases hf
          exact kR _ _ _ _ hP hD hS dX9_regionDrawn_50
  exact L14 (now (1 : Int32).toNatClampNeg) N _ _ hf _ _ _ hP hD hS (lv_sub hl [3, 2, 1, 0] rfl)
abbrev w_X9_keeps (kc : Nat → ClassId) (a0 a1 a2 a3 a4 a5 a6 a7 a8 a9 a10 a11 a12 a13 a14 a15 a16 a17 a18 a19 a20 a21 a22 a23 a24 a25 a26 a27 a28 : Nat) (thrown : Int32) (loftSize : Int32) (startWind : Int32) (seed : Int32) (draftLoft : Int32) (draftStart : Int32) (draftSeed : Int32) (length : Int32) (textSize : Int32) (start : Int32) (next_ : Int32) (token : Int32) (value : Int32) (error : Int32) (errorAt : Int32) (number : Int32) (undos : Int32) (undo : Nat → Int32) (now : Nat → Int32) : va_W := [(a0, .inr (9, [.int thrown, .ref a1, .ref a2, .ref a3, .ref a4, .ref a5, .ref a6, .ref a7, .ref a8, .ref a9, .ref a10, .ref a11, .ref a12, .ref a13, .ref a14, .ref a15, .ref a16, .ref a17, .ref a18, .ref a19, .int loftSize, .int startWind, .int seed, .int draftLoft, .int draftStart, .int draftSeed, .ref a20, .int length, .int textSize, .int start, .int next_, .int token, .int value, .int error, .int errorAt, .int number, .ref a21, .ref a22, .ref a23, .ref a24, .ref a25, .int undos, .ref a26, .ref a27, .ref a28])), (a26, .inl (kc 1, 2556, .inl undo)), (a1, .inl (kc 1, 213, .inl now))]
set_option maxHeartbeats 4000000 in
set_option maxRecDepth 100000 in
theorem c_X9_keeps (l : Launch) (D : va_G) (kc : Nat → ClassId) (N : Nat) (a0 a1 a2 a3 a4 a5 a6 a7 a8 a9 a10 a11 a12 a13 a14 a15 a16 a17 a18 a19 a20 a21 a22 a23 a24 a25 a26 a27 a28 : Nat) (thrown : Int32) (loftSize : Int32) (startWind : Int32) (seed : Int32) (draftLoft : Int32) (draftStart : Int32) (draftSeed : Int32) (length : Int32) (textSize : Int32) (start : Int32) (next_ : Int32) (token : Int32) (value : Int32) (error : Int32) (errorAt : Int32) (number : Int32) (undos : Int32) (undo : Nat → Int32) (now : Nat → Int32) (undos' : Int32) (undo' : Nat → Int32) (hf : f_X9_keeps N undos undo now = some (undos', undo')) : MV l yX9_keeps wsX9_keeps ({ frames := 1, cells := 0, slots := 0, locals := 25 }) D kc [.ref a0] (w_X9_keeps kc a0 a1 a2 a3 a4 a5 a6 a7 a8 a9 a10 a11 a12 a13 a14 a15 a16 a17 a18 a19 a20 a21 a22 a23 a24 a25 a26 a27 a28 thrown loftSize startWind seed draftLoft draftStart draftSeed length textSize start next_ token value error errorAt number undos undo now) (w_X9_keeps kc a0 a1 a2 a3 a4 a5 a6 a7 a8 a9 a10 a11 a12 a13 a14 a15 a16 a17 a18 a19 a20 a21 a22 a23 a24 a25 a26 a27 a28 thrown loftSize startWind seed draftLoft draftStart draftSeed length textSize start next_ token value error errorAt number undos' undo' now) := by
  refine gM_V (cc := cX9_keeps) (maxL := 1) (by decide) rfl (Nat.le_of_ble_eq_true rfl) ?_
  intro p e s m below meth c A ls Q hx hb hml hown hts hN hK hP hD hA hl kR
  have hS : va_S A s.heap s.heap [] := va_S.rf
  have hl : lv_has ls 1 [(0, .ref a0)] := hl
  have in_X9 : ∀ w ∈ u_ws RX9 TX9 45, w ∈ wsX9_keeps := by decide +kernel
  have lk_243 := hts (.fieldLink RX9 243 "BalloonMailModel" "undos" "I") (by decide +kernel)
  have lk_13 := hts (.fieldLink RX9 13 "BalloonMailModel" "now" "[I") (by decide +kernel)
  have lk_94 := hts (.fieldLink RX9 94 "BalloonMailModel" "undo" "[I") (by decide +kernel)
  have J42 : ∀ (undos_42 : Int32) (undo_42 : Nat → Int32), f_X9_keeps_j42 N now undos_42 undo_42 = some (undos', undo') → ∀ (H : Heap) (locs : List Loc) (ls : Array Slot), va_P D vwCl (w_X9_keeps kc a0 a1 a2 a3 a4 a5 a6 a7 a8 a9 a10 a11 a12 a13 a14 a15 a16 a17 a18 a19 a20 a21 a22 a23 a24 a25 a26 a27 a28 thrown loftSize startWind seed draftLoft draftStart draftSeed length textSize start next_ token value error errorAt number undos_42 undo_42 now) H → va_D A (w_X9_keeps kc a0 a1 a2 a3 a4 a5 a6 a7 a8 a9 a10 a11 a12 a13 a14 a15 a16 a17 a18 a19 a20 a21 a22 a23 a24 a25 a26 a27 a28 thrown loftSize startWind seed draftLoft draftStart draftSeed length textSize start next_ token value error errorAt number undos_42 undo_42 now) → va_S A s.heap H locs → lv_has ls 1 [(0, .ref a0)] → W p l e ({ frames := 1, cells := 0, slots := 0, locals := 25 }) s m (([.ref a0] : List Value).toArray) below meth c H locs 0 0 Q (F0 m 42 ls []) := by
    clear hf
    intro undos_42 undo_42 hf H locs ls hP hD hS hl
    unfold f_X9_keeps_j42 at hf
    refine lv_aload_n hx hb dX9_keeps_42 rfl (lv_at hl 0 rfl) ?_
    refine va_get (D := D) (ci := 9) (v := .ref a1) (C := RX9) (T := TX9) (N := 45) hx hb hts in_X9 hown hK hP 0 rfl rfl 1 (by decide) lk_13 (fun _ h9 => h9) rfl dX9_keeps_43 ?_
    refine lv_iconst (v := 0) hx hb dX9_keeps_46 (by decide) ?_
    refine lv_aload_n hx hb dX9_keeps_47 rfl (lv_at hl 0 rfl) ?_
    refine va_get (D := D) (ci := 9) (v := .ref a26) (C := RX9) (T := TX9) (N := 45) hx hb hts in_X9 hown hK hP 0 rfl rfl 42 (by decide) lk_94 (fun _ h9 => h9) rfl dX9_keeps_48 ?_
    refine lv_sipush (v := 213) hx hb dX9_keeps_51 (by decide) ?_
    refine lv_aload_n hx hb dX9_keeps_54 rfl (lv_at hl 0 rfl) ?_
    refine va_get (D := D) (ci := 9) (v := .int undos_42) (C := RX9) (T := TX9) (N := 45) hx hb hts in_X9 hown hK hP 0 rfl rfl 41 (by decide) lk_243 (fun _ h9 => h9) rfl dX9_keeps_55 ?_
    refine lv_imul hx hb dX9_keeps_58 ?_
    refine lv_sipush (v := 213) hx hb dX9_keeps_59 (by decide) ?_
    obtain ⟨undo_1, hc, hf⟩ := ob1_some hf
    refine g_SV (As := [.ref a1, .int 0, .ref a26, .int (213 * undos_42), .int 213]) (rest := []) (ws' := (w_X9_keeps kc a0 a1 a2 a3 a4 a5 a6 a7 a8 a9 a10 a11 a12 a13 a14 a15 a16 a17 a18 a19 a20 a21 a22 a23 a24 a25 a26 a27 a28 thrown loftSize startWind seed draftLoft draftStart draftSeed length textSize start next_ token value error errorAt number undos_42 undo_1 now)) ⟨hx, hb, hml, hown, hts⟩ hN hK hP hD hS hA (c_X9_copies l D kc N a1 a26 213 2556 now undo_42 0 (213 * undos_42) 213 undo_1 hc) (va_cwS 5 hts gX9_keeps_X9_copies rfl rfl rfl (by decide +kernel) ⟨Nat.le_of_ble_eq_true rfl, Nat.le_of_ble_eq_true rfl⟩) [2, 1] [0] [0, 2, 1] (by exact ⟨rfl, rfl, by decide, rfl⟩) rfl hl.1 rfl (Nat.le_of_ble_eq_true rfl) dX9_keeps_62 ⟨Nat.le_refl _, Nat.le_refl _⟩ (fun H locs hP hD hS => ?_)
    refine lv_aload_n hx hb dX9_keeps_65 rfl (lv_at hl 0 rfl) ?_
    refine lv_dup hx hb dX9_keeps_66 rfl ?_
    refine va_get (D := D) (ci := 9) (v := .int undos_42) (C := RX9) (T := TX9) (N := 45) hx hb hts in_X9 hown hK hP 0 rfl rfl 41 (by decide) lk_243 (fun _ h9 => h9) rfl dX9_keeps_67 ?_
    refine lv_iconst (v := 1) hx hb dX9_keeps_70 (by decide) ?_
    refine lv_iadd hx hb dX9_keeps_71 ?_
    refine va_put (D := D) (ci := 9) (v := .int (undos_42 + 1)) (ty := .int) (C := RX9) (T := TX9) (N := 45) hx hb hts in_X9 tyX9 tyX9_ok nmX9 hown hK hP hD hS 0 rfl rfl 41 (by decide) lk_243 (fun _ h9 => h9) rfl (by decide +kernel) rfl rfl (Nat.le_of_ble_eq_true rfl) dX9_keeps_72 (fun H locs hP hD hS => ?_)
    have hP : va_P D vwCl (w_X9_keeps kc a0 a1 a2 a3 a4 a5 a6 a7 a8 a9 a10 a11 a12 a13 a14 a15 a16 a17 a18 a19 a20 a21 a22 a23 a24 a25 a26 a27 a28 thrown loftSize startWind seed draftLoft draftStart draftSeed length textSize start next_ token value error errorAt number (undos_42 + 1) undo_1 now) H := hP
    have hD : va_D A (w_X9_keeps kc a0 a1 a2 a3 a4 a5 a6 a7 a8 a9 a10 a11 a12 a13 a14 a15 a16 a17 a18 a19 a20 a21 a22 a23 a24 a25 a26 a27 a28 thrown loftSize startWind seed draftLoft draftStart draftSeed length textSize start next_ token value error errorAt number (undos_42 + 1) undo_1 now) := hD
    cases hf
    exact kR _ _ _ _ hP hD hS dX9_keeps_75
  unfold f_X9_keeps at hf
  refine lv_aload_n hx hb dX9_keeps_0 rfl (lv_at hl 0 rfl) ?_
  refine va_get (D := D) (ci := 9) (v := .int undos) (C := RX9) (T := TX9) (N := 45) hx hb hts in_X9 hown hK hP 0 rfl rfl 41 (by decide) lk_243 (fun _ h9 => h9) rfl dX9_keeps_1 ?_
  refine lv_bipush (v := 12) hx hb dX9_keeps_4 (by decide) ?_
  refine lv_icmp_ne (tgt := 42) hx hb dX9_keeps_6 (by decide) (fun hc => ?_) (fun hc => ?_)
  · have hf := o_f hc hf
    exact J42 _ _ hf _ _ _ hP hD hS (lv_sub hl [0] rfl)
  · have hf := o_t hc hf
    refine lv_aload_n hx hb dX9_keeps_9 rfl (lv_at hl 0 rfl) ?_
    refine lv_dup hx hb dX9_keeps_10 rfl ?_
    refine va_get (D := D) (ci := 9) (v := .int undos) (C := RX9) (T := TX9) (N := 45) hx hb hts in_X9 hown hK hP 0 rfl rfl 41 (by decide) lk_243 (fun _ h9 => h9) rfl dX9_keeps_11 ?_
    refine lv_iconst (v := 1) hx hb dX9_keeps_14 (by decide) ?_
    refine lv_isub hx hb dX9_keeps_15 ?_
    refine va_put (D := D) (ci := 9) (v := .int (undos - 1)) (ty := .int) (C := RX9) (T := TX9) (N := 45) hx hb hts in_X9 tyX9 tyX9_ok nmX9 hown hK hP hD hS 0 rfl rfl 41 (by decide) lk_243 (fun _ h9 => h9) rfl (by decide +kernel) rfl rfl (Nat.le_of_ble_eq_true rfl) dX9_keeps_16 (fun H locs hP hD hS => ?_)
    have hP : va_P D vwCl (w_X9_keeps kc a0 a1 a2 a3 a4 a5 a6 a7 a8 a9 a10 a11 a12 a13 a14 a15 a16 a17 a18 a19 a20 a21 a22 a23 a24 a25 a26 a27 a28 thrown loftSize startWind seed draftLoft draftStart draftSeed length textSize start next_ token value error errorAt number (undos - 1) undo now) H := hP
    have hD : va_D A (w_X9_keeps kc a0 a1 a2 a3 a4 a5 a6 a7 a8 a9 a10 a11 a12 a13 a14 a15 a16 a17 a18 a19 a20 a21 a22 a23 a24 a25 a26 a27 a28 thrown loftSize startWind seed draftLoft draftStart draftSeed length textSize start next_ token value error errorAt number (undos - 1) undo now) := hD
    refine lv_aload_n hx hb dX9_keeps_19 rfl (lv_at hl 0 rfl) ?_
    refine va_get (D := D) (ci := 9) (v := .ref a26) (C := RX9) (T := TX9) (N := 45) hx hb hts in_X9 hown hK hP 0 rfl rfl 42 (by decide) lk_94 (fun _ h9 => h9) rfl dX9_keeps_20 ?_
    refine lv_sipush (v := 213) hx hb dX9_keeps_23 (by decide) ?_
    refine lv_aload_n hx hb dX9_keeps_26 rfl (lv_at hl 0 rfl) ?_
    refine va_get (D := D) (ci := 9) (v := .ref a26) (C := RX9) (T := TX9) (N := 45) hx hb hts in_X9 hown hK hP 0 rfl rfl 42 (by decide) lk_94 (fun _ h9 => h9) rfl dX9_keeps_27 ?_
    refine lv_iconst (v := 0) hx hb dX9_keeps_30 (by decide) ?_
    refine lv_sipush (v := 213) hx hb dX9_keeps_31 (by decide) ?_
    refine lv_aload_n hx hb dX9_keeps_34 rfl (lv_at hl 0 rfl) ?_
    refine va_get (D := D) (ci := 9) (v := .int (undos - 1)) (C := RX9) (T := TX9) (N := 45) hx hb hts in_X9 hown hK hP 0 rfl rfl 41 (by decide) lk_243 (fun _ h9 => h9) rfl dX9_keeps_35 ?_
    refine lv_imul hx hb dX9_keeps_38 ?_
    obtain ⟨undo_2, hc, hf⟩ := ob1_some hf
    refine g_SV (As := [.ref a26, .int 213, .ref a26, .int 0, .int (213 * (undos - 1))]) (rest := []) (ws' := (w_X9_keeps kc a0 a1 a2 a3 a4 a5 a6 a7 a8 a9 a10 a11 a12 a13 a14 a15 a16 a17 a18 a19 a20 a21 a22 a23 a24 a25 a26 a27 a28 thrown loftSize startWind seed draftLoft draftStart draftSeed length textSize start next_ token value error errorAt number (undos - 1) undo_2 now)) ⟨hx, hb, hml, hown, hts⟩ hN hK hP hD hS hA (c_X9_copies_al l D kc N a26 2556 undo 213 0 (213 * (undos - 1)) undo_2 hc) (va_cwS 5 hts gX9_keeps_X9_copies rfl rfl rfl (by decide +kernel) ⟨Nat.le_of_ble_eq_true rfl, Nat.le_of_ble_eq_true rfl⟩) [1] [0, 2] [0, 2, 1] (by exact ⟨rfl, rfl, by decide, rfl⟩) rfl hl.1 rfl (Nat.le_of_ble_eq_true rfl) dX9_keeps_39 ⟨Nat.le_refl _, Nat.le_refl _⟩ (fun H locs hP hD hS => ?_)
    exact J42 _ _ hf _ _ _ hP hD hS (lv_sub hl [0] rfl)
abbrev w_X9_launch (kc : Nat → ClassId) (a0 a1 a2 a3 a4 a5 a6 a7 a8 a9 a10 a11 a12 a13 a14 a15 a16 a17 a18 a19 a20 a21 a22 a23 a24 a25 a26 a27 a28 : Nat) (thrown : Int32) (loftSize : Int32) (startWind : Int32) (seed : Int32) (draftLoft : Int32) (draftStart : Int32) (draftSeed : Int32) (length : Int32) (textSize : Int32) (start : Int32) (next_ : Int32) (token : Int32) (value : Int32) (error : Int32) (errorAt : Int32) (number : Int32) (undos : Int32) (balloons : Nat → Int32) (letters : Nat → Int32) (now : Nat → Int32) (winds : Nat → Int32) (weight : Nat → Int32) (room_ : Nat → Int32) (pigeons : Nat → Int32) (undo : Nat → Int32) (named : Nat → Int32) (namedWeight : Nat → Int32) (namedRegion : Nat → Int32) (comesBack : Nat → Int32) (distance : Nat → Int32) (risk : Nat → Int32) : va_W := [(a0, .inr (9, [.int thrown, .ref a1, .ref a2, .ref a3, .ref a4, .ref a5, .ref a6, .ref a7, .ref a8, .ref a9, .ref a10, .ref a11, .ref a12, .ref a13, .ref a14, .ref a15, .ref a16, .ref a17, .ref a18, .ref a19, .int loftSize, .int startWind, .int seed, .int draftLoft, .int draftStart, .int draftSeed, .ref a20, .int length, .int textSize, .int start, .int next_, .int token, .int value, .int error, .int errorAt, .int number, .ref a21, .ref a22, .ref a23, .ref a24, .ref a25, .int undos, .ref a26, .ref a27, .ref a28])), (a14, .inl (kc 1, 2, .inl balloons)), (a17, .inl (kc 1, 2, .inl letters)), (a1, .inl (kc 1, 213, .inl now)), (a6, .inl (kc 1, 2, .inl winds)), (a18, .inl (kc 1, 48, .inl weight)), (a15, .inl (kc 1, 20, .inl room_)), (a16, .inl (kc 1, 20, .inl pigeons)), (a26, .inl (kc 1, 2556, .inl undo)), (a7, .inl (kc 1, 12, .inl named)), (a9, .inl (kc 1, 96, .inl namedWeight)), (a8, .inl (kc 1, 96, .inl namedRegion)), (a5, .inl (kc 1, 16, .inl comesBack)), (a4, .inl (kc 1, 16, .inl distance)), (a3, .inl (kc 1, 16, .inl risk))]
set_option maxHeartbeats 4000000 in
set_option maxRecDepth 100000 in
theorem c_X9_launch (l : Launch) (D : va_G) (kc : Nat → ClassId) (N : Nat) (a0 a1 a2 a3 a4 a5 a6 a7 a8 a9 a10 a11 a12 a13 a14 a15 a16 a17 a18 a19 a20 a21 a22 a23 a24 a25 a26 a27 a28 : Nat) (thrown : Int32) (loftSize : Int32) (startWind : Int32) (seed : Int32) (draftLoft : Int32) (draftStart : Int32) (draftSeed : Int32) (length : Int32) (textSize : Int32) (start : Int32) (next_ : Int32) (token : Int32) (value : Int32) (error : Int32) (errorAt : Int32) (number : Int32) (undos : Int32) (balloons : Nat → Int32) (letters : Nat → Int32) (now : Nat → Int32) (winds : Nat → Int32) (weight : Nat → Int32) (room_ : Nat → Int32) (pigeons : Nat → Int32) (undo : Nat → Int32) (named : Nat → Int32) (namedWeight : Nat → Int32) (namedRegion : Nat → Int32) (comesBack : Nat → Int32) (distance : Nat → Int32) (risk : Nat → Int32) (x1 : Int32) (x2 : Int32) (r_ : Int32) (thrown' : Int32) (undos' : Int32) (now' : Nat → Int32) (undo' : Nat → Int32) (hf : f_X9_launch N undos balloons letters now winds weight room_ pigeons undo named namedWeight namedRegion comesBack distance risk x1 x2 = some (r_, thrown', undos', now', undo')) : MI l yX9_launch wsX9_launch ({ frames := 2, cells := 0, slots := 0, locals := 47 }) D kc [.ref a0, .int x1, .int x2] (w_X9_launch kc a0 a1 a2 a3 a4 a5 a6 a7 a8 a9 a10 a11 a12 a13 a14 a15 a16 a17 a18 a19 a20 a21 a22 a23 a24 a25 a26 a27 a28 thrown loftSize startWind seed draftLoft draftStart draftSeed length textSize start next_ token value error errorAt number undos balloons letters now winds weight room_ pigeons undo named namedWeight namedRegion comesBack distance risk) (w_X9_launch kc a0 a1 a2 a3 a4 a5 a6 a7 a8 a9 a10 a11 a12 a13 a14 a15 a16 a17 a18 a19 a20 a21 a22 a23 a24 a25 a26 a27 a28 thrown' loftSize startWind seed draftLoft draftStart draftSeed length textSize start next_ token value error errorAt number undos' balloons letters now' winds weight room_ pigeons undo' named namedWeight namedRegion comesBack distance risk) r_ := by
  refine gM_I (cc := cX9_launch) (maxL := 6) (by decide) rfl (Nat.le_of_ble_eq_true rfl) ?_
  intro p e s m below meth c A ls Q hx hb hml hown hts hN hK hP hD hA hl kR
  have hS : va_S A s.heap s.heap [] := va_S.rf
  have hl : lv_has ls 6 [(0, .ref a0), (1, .int x1), (2, .int x2)] := hl
  have in_X9 : ∀ w ∈ u_ws RX9 TX9 45, w ∈ wsX9_launch := by decide +kernel
  have lk_1 := hts (.fieldLink RX9 1 "BalloonMailModel" "thrown" "I") (by decide +kernel)
  have lk_13 := hts (.fieldLink RX9 13 "BalloonMailModel" "now" "[I") (by decide +kernel)
  have lk_29 := hts (.fieldLink RX9 29 "BalloonMailModel" "winds" "[I") (by decide +kernel)
  have lk_65 := hts (.fieldLink RX9 65 "BalloonMailModel" "weight" "[I") (by decide +kernel)
  have lk_56 := hts (.fieldLink RX9 56 "BalloonMailModel" "room" "[I") (by decide +kernel)
  have lk_59 := hts (.fieldLink RX9 59 "BalloonMailModel" "pigeons" "[I") (by decide +kernel)
  have lk_20 := hts (.fieldLink RX9 20 "BalloonMailModel" "risk" "[I") (by decide +kernel)
  have lk_26 := hts (.fieldLink RX9 26 "BalloonMailModel" "comesBack" "[I") (by decide +kernel)
  have lk_23 := hts (.fieldLink RX9 23 "BalloonMailModel" "distance" "[I") (by decide +kernel)
  have J218 : ∀ (y3_218 : Int32) (y4_218 : Int32) (thrown_218 : Int32) (undos_218 : Int32) (now_218 : Nat → Int32) (undo_218 : Nat → Int32), f_X9_launch_j218 N pigeons comesBack distance x1 y3_218 y4_218 thrown_218 undos_218 now_218 undo_218 = some (r_, thrown', undos', now', undo') → ∀ (H : Heap) (locs : List Loc) (ls : Array Slot), va_P D vwCl (w_X9_launch kc a0 a1 a2 a3 a4 a5 a6 a7 a8 a9 a10 a11 a12 a13 a14 a15 a16 a17 a18 a19 a20 a21 a22 a23 a24 a25 a26 a27 a28 thrown_218 loftSize startWind seed draftLoft draftStart draftSeed length textSize start next_ token value error errorAt number undos_218 balloons letters now_218 winds weight room_ pigeons undo_218 named namedWeight namedRegion comesBack distance risk) H → va_D A (w_X9_launch kc a0 a1 a2 a3 a4 a5 a6 a7 a8 a9 a10 a11 a12 a13 a14 a15 a16 a17 a18 a19 a20 a21 a22 a23 a24 a25 a26 a27 a28 thrown_218 loftSize startWind seed draftLoft draftStart draftSeed length textSize start next_ token value error errorAt number undos_218 balloons letters now_218 winds weight room_ pigeons undo_218 named namedWeight namedRegion comesBack distance risk) → va_S A s.heap H locs → lv_has ls 6 [(0, .ref a0), (1, .int x1), (3, .int y3_218), (4, .int y4_218)] → W p l e ({ frames := 2, cells := 0, slots := 0, locals := 47 }) s m (([.ref a0, .int x1, .int x2] : List Value).toArray) below meth c H locs 0 0 Q (F0 m 218 ls []) := by
    clear hf
    intro y3_218 y4_218 thrown_218 undos_218 now_218 undo_218 hf H locs ls hP hD hS hl
    unfold f_X9_launch_j218 at hf
    refine lv_iconst (v := 0) hx hb dX9_launch_218 (by decide) ?_
    refine lv_istore (lv' := [(5, .int 0), (0, .ref a0), (1, .int x1), (3, .int y3_218), (4, .int y4_218)]) hx hb dX9_launch_219 hl (by decide) rfl (fun ls hl => ?_)
    have L221 : ∀ (n : Nat) (y5_221 : Int32) (now_221 : Nat → Int32) (y5_221o : Int32) (now_221o : Nat → Int32), f_X9_launch_221 N pigeons comesBack distance x1 y3_218 y4_218 n y5_221 now_221 = some (y5_221o, now_221o) → (∀ (H : Heap) (locs : List Loc) (ls : Array Slot), va_P D vwCl (w_X9_launch kc a0 a1 a2 a3 a4 a5 a6 a7 a8 a9 a10 a11 a12 a13 a14 a15 a16 a17 a18 a19 a20 a21 a22 a23 a24 a25 a26 a27 a28 thrown_218 loftSize startWind seed draftLoft draftStart draftSeed length textSize start next_ token value error errorAt number undos_218 balloons letters now_221o winds weight room_ pigeons undo_218 named namedWeight namedRegion comesBack distance risk) H → va_D A (w_X9_launch kc a0 a1 a2 a3 a4 a5 a6 a7 a8 a9 a10 a11 a12 a13 a14 a15 a16 a17 a18 a19 a20 a21 a22 a23 a24 a25 a26 a27 a28 thrown_218 loftSize startWind seed draftLoft draftStart draftSeed length textSize start next_ token value error errorAt number undos_218 balloons letters now_221o winds weight room_ pigeons undo_218 named namedWeight namedRegion comesBack distance risk) → va_S A s.heap H locs → lv_has ls 6 [(0, .ref a0), (1, .int x1), (3, .int y3_218), (4, .int y4_218), (5, .int y5_221o)] → W p l e ({ frames := 2, cells := 0, slots := 0, locals := 47 }) s m (([.ref a0, .int x1, .int x2] : List Value).toArray) below meth c H locs 0 0 Q (F0 m 325 ls [])) → ∀ (H : Heap) (locs : List Loc) (ls : Array Slot), va_P D vwCl (w_X9_launch kc a0 a1 a2 a3 a4 a5 a6 a7 a8 a9 a10 a11 a12 a13 a14 a15 a16 a17 a18 a19 a20 a21 a22 a23 a24 a25 a26 a27 a28 thrown_218 loftSize startWind seed draftLoft draftStart draftSeed length textSize start next_ token value error errorAt number undos_218 balloons letters now_221 winds weight room_ pigeons undo_218 named namedWeight namedRegion comesBack distance risk) H → va_D A (w_X9_launch kc a0 a1 a2 a3 a4 a5 a6 a7 a8 a9 a10 a11 a12 a13 a14 a15 a16 a17 a18 a19 a20 a21 a22 a23 a24 a25 a26 a27 a28 thrown_218 loftSize startWind seed draftLoft draftStart draftSeed length textSize start next_ token value error errorAt number undos_218 balloons letters now_221 winds weight room_ pigeons undo_218 named namedWeight namedRegion comesBack distance risk) → va_S A s.heap H locs → lv_has ls 6 [(0, .ref a0), (1, .int x1), (3, .int y3_218), (4, .int y4_218), (5, .int y5_221)] → W p l e ({ frames := 2, cells := 0, slots := 0, locals := 47 }) s m (([.ref a0, .int x1, .int x2] : List Value).toArray) below meth c H locs 0 0 Q (F0 m 221 ls []) := by
      intro n
      induction n with
      | zero => intro _ _ _ _ hf; rw [f_X9_launch_221.eq_1] at hf; cases hf
      | succ n ih =>
        intro y5_221 now_221 y5_221o now_221o hf hk H locs ls hP hD hS hl
        rw [f_X9_launch_221.eq_2] at hf
        refine lv_iload hx hb dX9_launch_221 (lv_at hl 4 rfl) ?_
        refine lv_aload_n hx hb dX9_launch_223 rfl (lv_at hl 0 rfl) ?_
        refine va_get (D := D) (ci := 9) (v := .ref a16) (C := RX9) (T := TX9) (N := 45) hx hb hts in_X9 hown hK hP 0 rfl rfl 16 (by decide) lk_59 (fun _ h9 => h9) rfl dX9_launch_224 ?_
        refine lv_iload_n hx hb dX9_launch_227 rfl (lv_at hl 1 rfl) ?_
        obtain ⟨hi, hf⟩ := gIx_some hf
        refine va_iald hx hb hK hP 7 1 rfl rfl hi dX9_launch_228 ?_
        refine lv_icmp_ge (tgt := 325) hx hb dX9_launch_229 (by decide) (fun hc => ?_) (fun hc => ?_)
        · have hf := o_t hc hf
          cases hf
          exact hk _ _ _ hP hD hS (lv_sub hl [0, 1, 2, 3, 4] rfl)
        · have hf := o_f hc hf
          refine lv_iload hx hb dX9_launch_232 (lv_at hl 3 rfl) ?_
          refine lv_iconst (v := 3) hx hb dX9_launch_234 (by decide) ?_
          refine lv_icmp_ne (tgt := 325) hx hb dX9_launch_235 (by decide) (fun hc => ?_) (fun hc => ?_)
          · have hf := o_f hc hf
            cases hf
            exact hk _ _ _ hP hD hS (lv_sub hl [0, 1, 2, 3, 4] rfl)
          · have hf := o_t hc hf
            refine lv_aload_n hx hb dX9_launch_238 rfl (lv_at hl 0 rfl) ?_
            obtain ⟨r_14, now_15, hc, hf⟩ := ob2_some hf
            refine g_VI (As := []) (rest := []) (ws' := (w_X9_launch kc a0 a1 a2 a3 a4 a5 a6 a7 a8 a9 a10 a11 a12 a13 a14 a15 a16 a17 a18 a19 a20 a21 a22 a23 a24 a25 a26 a27 a28 thrown_218 loftSize startWind seed draftLoft draftStart draftSeed length textSize start next_ token value error errorAt number undos_218 balloons letters now_15 winds weight room_ pigeons undo_218 named namedWeight namedRegion comesBack distance risk)) ⟨hx, hb, hml, hown, hts⟩ hN hK hP hD hS hA (c_X9_draw l D kc N a0 a1 a2 a3 a4 a5 a6 a7 a8 a9 a10 a11 a12 a13 a14 a15 a16 a17 a18 a19 a20 a21 a22 a23 a24 a25 a26 a27 a28 thrown_218 loftSize startWind seed draftLoft draftStart draftSeed length textSize start next_ token value error errorAt number undos_218 now_221 r_14 now_15 hc) (cwV 0 hts gX9_launch_X9_draw rfl rfl rfl (by decide +kernel) ⟨Nat.le_of_ble_eq_true rfl, Nat.le_of_ble_eq_true rfl⟩) [0, 3] [1, 2, 4, 5, 6, 7, 8, 9, 10, 11, 12, 13, 14] [13, 0, 1, 14, 2, 3, 4, 5, 6, 7, 8, 9, 10, 11, 12] (by exact ⟨rfl, rfl, by decide, rfl⟩) 0 9 rfl rfl rfl rfl hl.1 rfl (Nat.le_of_ble_eq_true rfl) dX9_launch_239 ⟨Nat.le_refl _, Nat.le_refl _⟩ (fun H locs hP hD hS => ?_)
            refine lv_aload_n hx hb dX9_launch_242 rfl (lv_at hl 0 rfl) ?_
            refine va_get (D := D) (ci := 9) (v := .ref a5) (C := RX9) (T := TX9) (N := 45) hx hb hts in_X9 hown hK hP 0 rfl rfl 5 (by decide) lk_26 (fun _ h9 => h9) rfl dX9_launch_243 ?_
            refine lv_iload_n hx hb dX9_launch_246 rfl (lv_at hl 2 rfl) ?_
            obtain ⟨hi, hf⟩ := gIx_some hf
            refine va_iald hx hb hK hP 12 1 rfl rfl hi dX9_launch_247 ?_
            refine lv_icmp_ge (tgt := 309) hx hb dX9_launch_248 (by decide) (fun hc => ?_) (fun hc => ?_)
            · have hf := o_t hc hf
              refine lv_aload_n hx hb dX9_launch_309 rfl (lv_at hl 0 rfl) ?_
              refine va_get (D := D) (ci := 9) (v := .ref a1) (C := RX9) (T := TX9) (N := 45) hx hb hts in_X9 hown hK hP 0 rfl rfl 1 (by decide) lk_13 (fun _ h9 => h9) rfl dX9_launch_310 ?_
              refine lv_iconst (v := 4) hx hb dX9_launch_313 (by decide) ?_
              refine lv_dup2_11 hx hb dX9_launch_314 rfl rfl ?_
              obtain ⟨hi, hf⟩ := gIx_some hf
              refine va_iald hx hb hK hP 3 1 rfl rfl hi dX9_launch_315 ?_
              refine lv_iconst (v := 1) hx hb dX9_launch_316 (by decide) ?_
              refine lv_iadd hx hb dX9_launch_317 ?_
              obtain ⟨hi, hf⟩ := gIx_some hf
              refine va_iast hx hb hK hP hD hS 3 1 rfl rfl hi dX9_launch_318 (fun H locs hP hD hS => ?_)
              have hP : va_P D vwCl (w_X9_launch kc a0 a1 a2 a3 a4 a5 a6 a7 a8 a9 a10 a11 a12 a13 a14 a15 a16 a17 a18 a19 a20 a21 a22 a23 a24 a25 a26 a27 a28 thrown_218 loftSize startWind seed draftLoft draftStart draftSeed length textSize start next_ token value error errorAt number undos_218 balloons letters (upd now_15 (4 : Int32).toNatClampNeg ((now_15 (4 : Int32).toNatClampNeg) + 1)) winds weight room_ pigeons undo_218 named namedWeight namedRegion comesBack distance risk) H := hP
              have hD : va_D A (w_X9_launch kc a0 a1 a2 a3 a4 a5 a6 a7 a8 a9 a10 a11 a12 a13 a14 a15 a16 a17 a18 a19 a20 a21 a22 a23 a24 a25 a26 a27 a28 thrown_218 loftSize startWind seed draftLoft draftStart draftSeed length textSize start next_ token value error errorAt number undos_218 balloons letters (upd now_15 (4 : Int32).toNatClampNeg ((now_15 (4 : Int32).toNatClampNeg) + 1)) winds weight room_ pigeons undo_218 named namedWeight namedRegion comesBack distance risk) := hD
              refine lv_iinc (v := (y5_221 + 1)) (lv' := [(5, .int (y5_221 + 1)), (0, .ref a0), (1, .int x1), (3, .int y3_218), (4, .int y4_218)]) hx hb dX9_launch_319 hl (k := 4) rfl (by rfl) (by decide) rfl (fun ls hl => ?_)
              refine lv_goto (tgt := 221) hx hb dX9_launch_322 (by decide) ?_
              exact ih _ _ _ _ hf hk _ _ _ hP hD hS (lv_sub hl [1, 2, 3, 4, 0] rfl)
            · have hf := o_f hc hf
              refine lv_aload_n hx hb dX9_launch_251 rfl (lv_at hl 0 rfl) ?_
              refine va_get (D := D) (ci := 9) (v := .ref a1) (C := RX9) (T := TX9) (N := 45) hx hb hts in_X9 hown hK hP 0 rfl rfl 1 (by decide) lk_13 (fun _ h9 => h9) rfl dX9_launch_252 ?_
              refine lv_bipush (v := 84) hx hb dX9_launch_255 (by decide) ?_
              refine lv_aload_n hx hb dX9_launch_257 rfl (lv_at hl 0 rfl) ?_
              refine va_get (D := D) (ci := 9) (v := .ref a1) (C := RX9) (T := TX9) (N := 45) hx hb hts in_X9 hown hK hP 0 rfl rfl 1 (by decide) lk_13 (fun _ h9 => h9) rfl dX9_launch_258 ?_
              refine lv_bipush (v := 83) hx hb dX9_launch_261 (by decide) ?_
              obtain ⟨hi, hf⟩ := gIx_some hf
              refine va_iald hx hb hK hP 3 1 rfl rfl hi dX9_launch_263 ?_
              refine lv_iadd hx hb dX9_launch_264 ?_
              refine lv_iload_n hx hb dX9_launch_265 rfl (lv_at hl 1 rfl) ?_
              obtain ⟨hi, hf⟩ := gIx_some hf
              refine va_iast hx hb hK hP hD hS 3 1 rfl rfl hi dX9_launch_266 (fun H locs hP hD hS => ?_)
              have hP : va_P D vwCl (w_X9_launch kc a0 a1 a2 a3 a4 a5 a6 a7 a8 a9 a10 a11 a12 a13 a14 a15 a16 a17 a18 a19 a20 a21 a22 a23 a24 a25 a26 a27 a28 thrown_218 loftSize startWind seed draftLoft draftStart draftSeed length textSize start next_ token value error errorAt number undos_218 balloons letters (upd now_15 ((84 + (now_15 (83 : Int32).toNatClampNeg)) : Int32).toNatClampNeg x1) winds weight room_ pigeons undo_218 named namedWeight namedRegion comesBack distance risk) H := hP
              have hD : va_D A (w_X9_launch kc a0 a1 a2 a3 a4 a5 a6 a7 a8 a9 a10 a11 a12 a13 a14 a15 a16 a17 a18 a19 a20 a21 a22 a23 a24 a25 a26 a27 a28 thrown_218 loftSize startWind seed draftLoft draftStart draftSeed length textSize start next_ token value error errorAt number undos_218 balloons letters (upd now_15 ((84 + (now_15 (83 : Int32).toNatClampNeg)) : Int32).toNatClampNeg x1) winds weight room_ pigeons undo_218 named namedWeight namedRegion comesBack distance risk) := hD
              refine lv_aload_n hx hb dX9_launch_267 rfl (lv_at hl 0 rfl) ?_
              refine va_get (D := D) (ci := 9) (v := .ref a1) (C := RX9) (T := TX9) (N := 45) hx hb hts in_X9 hown hK hP 0 rfl rfl 1 (by decide) lk_13 (fun _ h9 => h9) rfl dX9_launch_268 ?_
              refine lv_bipush (v := 124) hx hb dX9_launch_271 (by decide) ?_
              refine lv_aload_n hx hb dX9_launch_273 rfl (lv_at hl 0 rfl) ?_
              refine va_get (D := D) (ci := 9) (v := .ref a1) (C := RX9) (T := TX9) (N := 45) hx hb hts in_X9 hown hK hP 0 rfl rfl 1 (by decide) lk_13 (fun _ h9 => h9) rfl dX9_launch_274 ?_
              refine lv_bipush (v := 83) hx hb dX9_launch_277 (by decide) ?_
              obtain ⟨hi, hf⟩ := gIx_some hf
              refine va_iald hx hb hK hP 3 1 rfl rfl hi dX9_launch_279 ?_
              refine lv_iadd hx hb dX9_launch_280 ?_
              refine lv_aload_n hx hb dX9_launch_281 rfl (lv_at hl 0 rfl) ?_
              refine va_get (D := D) (ci := 9) (v := .ref a1) (C := RX9) (T := TX9) (N := 45) hx hb hts in_X9 hown hK hP 0 rfl rfl 1 (by decide) lk_13 (fun _ h9 => h9) rfl dX9_launch_282 ?_
              refine lv_iconst (v := 0) hx hb dX9_launch_285 (by decide) ?_
              obtain ⟨hi, hf⟩ := gIx_some hf
              refine va_iald hx hb hK hP 3 1 rfl rfl hi dX9_launch_286 ?_
              refine lv_aload_n hx hb dX9_launch_287 rfl (lv_at hl 0 rfl) ?_
              refine va_get (D := D) (ci := 9) (v := .ref a4) (C := RX9) (T := TX9) (N := 45) hx hb hts in_X9 hown hK hP 0 rfl rfl 4 (by decide) lk_23 (fun _ h9 => h9) rfl dX9_launch_288 ?_
              refine lv_iload_n hx hb dX9_launch_291 rfl (lv_at hl 2 rfl) ?_
              obtain ⟨hi, hf⟩ := gIx_some hf
              refine va_iald hx hb hK hP 13 1 rfl rfl hi dX9_launch_292 ?_
              refine lv_iadd hx hb dX9_launch_293 ?_
              obtain ⟨hi, hf⟩ := gIx_some hf
              refine va_iast hx hb hK hP hD hS 3 1 rfl rfl hi dX9_launch_294 (fun H locs hP hD hS => ?_)
              have hP : va_P D vwCl (w_X9_launch kc a0 a1 a2 a3 a4 a5 a6 a7 a8 a9 a10 a11 a12 a13 a14 a15 a16 a17 a18 a19 a20 a21 a22 a23 a24 a25 a26 a27 a28 thrown_218 loftSize startWind seed draftLoft draftStart draftSeed length textSize start next_ token value error errorAt number undos_218 balloons letters (upd (upd now_15 ((84 + (now_15 (83 : Int32).toNatClampNeg)) : Int32).toNatClampNeg x1) ((124 + ((upd now_15 ((84 + (now_15 (83 : Int32).toNatClampNeg)) : Int32).toNatClampNeg x1) (83 : Int32).toNatClampNeg)) : Int32).toNatClampNeg (((upd now_15 ((84 + (now_15 (83 : Int32).toNatClampNeg)) : Int32).toNatClampNeg x1) (0 : Int32).toNatClampNeg) + (distance (y3_218 : Int32).toNatClampNeg))) winds weight room_ pigeons undo_218 named namedWeight namedRegion comesBack distance risk) H := hP
              have hD : va_D A (w_X9_launch kc a0 a1 a2 a3 a4 a5 a6 a7 a8 a9 a10 a11 a12 a13 a14 a15 a16 a17 a18 a19 a20 a21 a22 a23 a24 a25 a26 a27 a28 thrown_218 loftSize startWind seed draftLoft draftStart draftSeed length textSize start next_ token value error errorAt number undos_218 balloons letters (upd (upd now_15 ((84 + (now_15 (83 : Int32).toNatClampNeg)) : Int32).toNatClampNeg x1) ((124 + ((upd now_15 ((84 + (now_15 (83 : Int32).toNatClampNeg)) : Int32).toNatClampNeg x1) (83 : Int32).toNatClampNeg)) : Int32).toNatClampNeg (((upd now_15 ((84 + (now_15 (83 : Int32).toNatClampNeg)) : Int32).toNatClampNeg x1) (0 : Int32).toNatClampNeg) + (distance (y3_218 : Int32).toNatClampNeg))) winds weight room_ pigeons undo_218 named namedWeight namedRegion comesBack distance risk) := hD
              refine lv_aload_n hx hb dX9_launch_295 rfl (lv_at hl 0 rfl) ?_
              refine va_get (D := D) (ci := 9) (v := .ref a1) (C := RX9) (T := TX9) (N := 45) hx hb hts in_X9 hown hK hP 0 rfl rfl 1 (by decide) lk_13 (fun _ h9 => h9) rfl dX9_launch_296 ?_
              refine lv_bipush (v := 83) hx hb dX9_launch_299 (by decide) ?_
              refine lv_dup2_11 hx hb dX9_launch_301 rfl rfl ?_
              obtain ⟨hi, hf⟩ := gIx_some hf
              refine va_iald hx hb hK hP 3 1 rfl rfl hi dX9_launch_302 ?_
              refine lv_iconst (v := 1) hx hb dX9_launch_303 (by decide) ?_
              refine lv_iadd hx hb dX9_launch_304 ?_
              obtain ⟨hi, hf⟩ := gIx_some hf
              refine va_iast hx hb hK hP hD hS 3 1 rfl rfl hi dX9_launch_305 (fun H locs hP hD hS => ?_)
              have hP : va_P D vwCl (w_X9_launch kc a0 a1 a2 a3 a4 a5 a6 a7 a8 a9 a10 a11 a12 a13 a14 a15 a16 a17 a18 a19 a20 a21 a22 a23 a24 a25 a26 a27 a28 thrown_218 loftSize startWind seed draftLoft draftStart draftSeed length textSize start next_ token value error errorAt number undos_218 balloons letters (upd (upd (upd now_15 ((84 + (now_15 (83 : Int32).toNatClampNeg)) : Int32).toNatClampNeg x1) ((124 + ((upd now_15 ((84 + (now_15 (83 : Int32).toNatClampNeg)) : Int32).toNatClampNeg x1) (83 : Int32).toNatClampNeg)) : Int32).toNatClampNeg (((upd now_15 ((84 + (now_15 (83 : Int32).toNatClampNeg)) : Int32).toNatClampNeg x1) (0 : Int32).toNatClampNeg) + (distance (y3_218 : Int32).toNatClampNeg))) (83 : Int32).toNatClampNeg (((upd (upd now_15 ((84 + (now_15 (83 : Int32).toNatClampNeg)) : Int32).toNatClampNeg x1) ((124 + ((upd now_15 ((84 + (now_15 (83 : Int32).toNatClampNeg)) : Int32).toNatClampNeg x1) (83 : Int32).toNatClampNeg)) : Int32).toNatClampNeg (((upd now_15 ((84 + (now_15 (83 : Int32).toNatClampNeg)) : Int32).toNatClampNeg x1) (0 : Int32).toNatClampNeg) + (distance (y3_218 : Int32).toNatClampNeg))) (83 : Int32).toNatClampNeg) + 1)) winds weight room_ pigeons undo_218 named namedWeight namedRegion comesBack distance risk) H := hP
              have hD : va_D A (w_X9_launch kc a0 a1 a2 a3 a4 a5 a6 a7 a8 a9 a10 a11 a12 a13 a14 a15 a16 a17 a18 a19 a20 a21 a22 a23 a24 a25 a26 a27 a28 thrown_218 loftSize startWind seed draftLoft draftStart draftSeed length textSize start next_ token value error errorAt number undos_218 balloons letters (upd (upd (upd now_15 ((84 + (now_15 (83 : Int32).toNatClampNeg)) : Int32).toNatClampNeg x1) ((124 + ((upd now_15 ((84 + (now_15 (83 : Int32).toNatClampNeg)) : Int32).toNatClampNeg x1) (83 : Int32).toNatClampNeg)) : Int32).toNatClampNeg (((upd now_15 ((84 + (now_15 (83 : Int32).toNatClampNeg)) : Int32).toNatClampNeg x1) (0 : Int32).toNatClampNeg) + (distance (y3_218 : Int32).toNatClampNeg))) (83 : Int32).toNatClampNeg (((upd (upd now_15 ((84 + (now_15 (83 : Int32).toNatClampNeg)) : Int32).toNatClampNeg x1) ((124 + ((upd now_15 ((84 + (now_15 (83 : Int32).toNatClampNeg)) : Int32).toNatClampNeg x1) (83 : Int32).toNatClampNeg)) : Int32).toNatClampNeg (((upd now_15 ((84 + (now_15 (83 : Int32).toNatClampNeg)) : Int32).toNatClampNeg x1) (0 : Int32).toNatClampNeg) + (distance (y3_218 : Int32).toNatClampNeg))) (83 : Int32).toNatClampNeg) + 1)) winds weight room_ pigeons undo_218 named namedWeight namedRegion comesBack distance risk) := hD
              refine lv_goto (tgt := 319) hx hb dX9_launch_306 (by decide) ?_
              refine lv_iinc (v := (y5_221 + 1)) (lv' := [(5, .int (y5_221 + 1)), (0, .ref a0), (1, .int x1), (3, .int y3_218), (4, .int y4_218)]) hx hb dX9_launch_319 hl (k := 4) rfl (by rfl) (by decide) rfl (fun ls hl => ?_)
              refine lv_goto (tgt := 221) hx hb dX9_launch_322 (by decide) ?_
              exact ih _ _ _ _ hf hk _ _ _ hP hD hS (lv_sub hl [1, 2, 3, 4, 0] rfl)
    obtain ⟨y5_221o, now_221o, hc, hf⟩ := ob2_some hf
    refine L221 N _ _ _ _ hc (fun H locs ls hP hD hS hl => ?_) _ _ _ hP hD hS (lv_sub hl [1, 2, 3, 4, 0] rfl)
    refine lv_aload_n hx hb dX9_launch_325 rfl (lv_at hl 0 rfl) ?_
    refine lv_iload hx hb dX9_launch_326 (lv_at hl 3 rfl) ?_
    refine lv_iload_n hx hb dX9_launch_328 rfl (lv_at hl 1 rfl) ?_
    obtain ⟨now_16, hc, hf⟩ := ob1_some hf
    refine g_VV (As := [.int y4_218, .int x1]) (rest := []) (ws' := (w_X9_launch kc a0 a1 a2 a3 a4 a5 a6 a7 a8 a9 a10 a11 a12 a13 a14 a15 a16 a17 a18 a19 a20 a21 a22 a23 a24 a25 a26 a27 a28 thrown_218 loftSize startWind seed draftLoft draftStart draftSeed length textSize start next_ token value error errorAt number undos_218 balloons letters now_16 winds weight room_ pigeons undo_218 named namedWeight namedRegion comesBack distance risk)) ⟨hx, hb, hml, hown, hts⟩ hN hK hP hD hS hA (c_X9_notes l D kc N a0 a1 a2 a3 a4 a5 a6 a7 a8 a9 a10 a11 a12 a13 a14 a15 a16 a17 a18 a19 a20 a21 a22 a23 a24 a25 a26 a27 a28 thrown_218 loftSize startWind seed draftLoft draftStart draftSeed length textSize start next_ token value error errorAt number undos_218 now_221o y4_218 x1 now_16 hc) (cwV 2 hts gX9_launch_X9_notes rfl rfl rfl (by decide +kernel) ⟨Nat.le_of_ble_eq_true rfl, Nat.le_of_ble_eq_true rfl⟩) [0, 3] [1, 2, 4, 5, 6, 7, 8, 9, 10, 11, 12, 13, 14] [13, 0, 1, 14, 2, 3, 4, 5, 6, 7, 8, 9, 10, 11, 12] (by exact ⟨rfl, rfl, by decide, rfl⟩) 0 9 rfl rfl rfl rfl hl.1 rfl (Nat.le_of_ble_eq_true rfl) dX9_launch_329 ⟨Nat.le_refl _, Nat.le_refl _⟩ (fun H locs hP hD hS => ?_)
    refine lv_iload hx hb dX9_launch_332 (lv_at hl 3 rfl) ?_
    cases hf
    exact kR _ _ _ _ hP hD hS dX9_launch_334
  have J194 : ∀ (y3_194 : Int32) (y4_194 : Int32) (thrown_194 : Int32) (undos_194 : Int32) (now_194 : Nat → Int32) (undo_194 : Nat → Int32) (k1_194 : Int32) (k2_194 : Int32), f_X9_launch_j194 N letters pigeons comesBack distance x1 y3_194 y4_194 thrown_194 undos_194 now_194 undo_194 k1_194 k2_194 = some (r_, thrown', undos', now', undo') → ∀ (H : Heap) (locs : List Loc) (ls : Array Slot), va_P D vwCl (w_X9_launch kc a0 a1 a2 a3 a4 a5 a6 a7 a8 a9 a10 a11 a12 a13 a14 a15 a16 a17 a18 a19 a20 a21 a22 a23 a24 a25 a26 a27 a28 thrown_194 loftSize startWind seed draftLoft draftStart draftSeed length textSize start next_ token value error errorAt number undos_194 balloons letters now_194 winds weight room_ pigeons undo_194 named namedWeight namedRegion comesBack distance risk) H → va_D A (w_X9_launch kc a0 a1 a2 a3 a4 a5 a6 a7 a8 a9 a10 a11 a12 a13 a14 a15 a16 a17 a18 a19 a20 a21 a22 a23 a24 a25 a26 a27 a28 thrown_194 loftSize startWind seed draftLoft draftStart draftSeed length textSize start next_ token value error errorAt number undos_194 balloons letters now_194 winds weight room_ pigeons undo_194 named namedWeight namedRegion comesBack distance risk) → va_S A s.heap H locs → lv_has ls 6 [(0, .ref a0), (1, .int x1), (3, .int y3_194), (4, .int y4_194)] → W p l e ({ frames := 2, cells := 0, slots := 0, locals := 47 }) s m (([.ref a0, .int x1, .int x2] : List Value).toArray) below meth c H locs 0 0 Q (F0 m 194 ls [.int k2_194, .int k1_194, .ref a0]) := by
    clear hf
    intro y3_194 y4_194 thrown_194 undos_194 now_194 undo_194 k1_194 k2_194 hf H locs ls hP hD hS hl
    unfold f_X9_launch_j194 at hf
    obtain ⟨now_13, hc, hf⟩ := ob1_some hf
    refine g_VV (As := [.int k1_194, .int k2_194]) (rest := []) (ws' := (w_X9_launch kc a0 a1 a2 a3 a4 a5 a6 a7 a8 a9 a10 a11 a12 a13 a14 a15 a16 a17 a18 a19 a20 a21 a22 a23 a24 a25 a26 a27 a28 thrown_194 loftSize startWind seed draftLoft draftStart draftSeed length textSize start next_ token value error errorAt number undos_194 balloons letters now_13 winds weight room_ pigeons undo_194 named namedWeight namedRegion comesBack distance risk)) ⟨hx, hb, hml, hown, hts⟩ hN hK hP hD hS hA (c_X9_become l D kc N a0 a1 a2 a3 a4 a5 a6 a7 a8 a9 a10 a11 a12 a13 a14 a15 a16 a17 a18 a19 a20 a21 a22 a23 a24 a25 a26 a27 a28 thrown_194 loftSize startWind seed draftLoft draftStart draftSeed length textSize start next_ token value error errorAt number undos_194 letters now_194 k1_194 k2_194 now_13 hc) (cwV 2 hts gX9_launch_X9_become rfl rfl rfl (by decide +kernel) ⟨Nat.le_of_ble_eq_true rfl, Nat.le_of_ble_eq_true rfl⟩) [0, 2, 3] [1, 4, 5, 6, 7, 8, 9, 10, 11, 12, 13, 14] [12, 0, 13, 14, 1, 2, 3, 4, 5, 6, 7, 8, 9, 10, 11] (by exact ⟨rfl, rfl, by decide, rfl⟩) 0 9 rfl rfl rfl rfl hl.1 rfl (Nat.le_of_ble_eq_true rfl) dX9_launch_194 ⟨Nat.le_refl _, Nat.le_refl _⟩ (fun H locs hP hD hS => ?_)
    refine lv_iload hx hb dX9_launch_197 (lv_at hl 3 rfl) ?_
    refine lv_iconst (v := 3) hx hb dX9_launch_199 (by decide) ?_
    refine lv_icmp_eq (tgt := 218) hx hb dX9_launch_200 (by decide) (fun hc => ?_) (fun hc => ?_)
    · have hf := o_t hc hf
      exact J218 _ _ _ _ _ _ hf _ _ _ hP hD hS (lv_sub hl [0, 1, 2, 3] rfl)
    · have hf := o_f hc hf
      refine lv_aload_n hx hb dX9_launch_203 rfl (lv_at hl 0 rfl) ?_
      refine va_get (D := D) (ci := 9) (v := .ref a1) (C := RX9) (T := TX9) (N := 45) hx hb hts in_X9 hown hK hP 0 rfl rfl 1 (by decide) lk_13 (fun _ h9 => h9) rfl dX9_launch_204 ?_
      refine lv_iconst (v := 4) hx hb dX9_launch_207 (by decide) ?_
      refine lv_dup2_11 hx hb dX9_launch_208 rfl rfl ?_
      obtain ⟨hi, hf⟩ := gIx_some hf
      refine va_iald hx hb hK hP 3 1 rfl rfl hi dX9_launch_209 ?_
      refine lv_aload_n hx hb dX9_launch_210 rfl (lv_at hl 0 rfl) ?_
      refine va_get (D := D) (ci := 9) (v := .ref a16) (C := RX9) (T := TX9) (N := 45) hx hb hts in_X9 hown hK hP 0 rfl rfl 16 (by decide) lk_59 (fun _ h9 => h9) rfl dX9_launch_211 ?_
      refine lv_iload_n hx hb dX9_launch_214 rfl (lv_at hl 1 rfl) ?_
      obtain ⟨hi, hf⟩ := gIx_some hf
      refine va_iald hx hb hK hP 7 1 rfl rfl hi dX9_launch_215 ?_
      refine lv_iadd hx hb dX9_launch_216 ?_
      obtain ⟨hi, hf⟩ := gIx_some hf
      refine va_iast hx hb hK hP hD hS 3 1 rfl rfl hi dX9_launch_217 (fun H locs hP hD hS => ?_)
      have hP : va_P D vwCl (w_X9_launch kc a0 a1 a2 a3 a4 a5 a6 a7 a8 a9 a10 a11 a12 a13 a14 a15 a16 a17 a18 a19 a20 a21 a22 a23 a24 a25 a26 a27 a28 thrown_194 loftSize startWind seed draftLoft draftStart draftSeed length textSize start next_ token value error errorAt number undos_194 balloons letters (upd now_13 (4 : Int32).toNatClampNeg ((now_13 (4 : Int32).toNatClampNeg) + (pigeons (x1 : Int32).toNatClampNeg))) winds weight room_ pigeons undo_194 named namedWeight namedRegion comesBack distance risk) H := hP
      have hD : va_D A (w_X9_launch kc a0 a1 a2 a3 a4 a5 a6 a7 a8 a9 a10 a11 a12 a13 a14 a15 a16 a17 a18 a19 a20 a21 a22 a23 a24 a25 a26 a27 a28 thrown_194 loftSize startWind seed draftLoft draftStart draftSeed length textSize start next_ token value error errorAt number undos_194 balloons letters (upd now_13 (4 : Int32).toNatClampNeg ((now_13 (4 : Int32).toNatClampNeg) + (pigeons (x1 : Int32).toNatClampNeg))) winds weight room_ pigeons undo_194 named namedWeight namedRegion comesBack distance risk) := hD
      exact J218 _ _ _ _ _ _ hf _ _ _ hP hD hS (lv_sub hl [0, 1, 2, 3] rfl)
  have J169 : ∀ (y3_169 : Int32) (thrown_169 : Int32) (undos_169 : Int32) (now_169 : Nat → Int32) (undo_169 : Nat → Int32) (k0_169 : Int32), f_X9_launch_j169 N letters pigeons comesBack distance x1 x2 y3_169 thrown_169 undos_169 now_169 undo_169 k0_169 = some (r_, thrown', undos', now', undo') → ∀ (H : Heap) (locs : List Loc) (ls : Array Slot), va_P D vwCl (w_X9_launch kc a0 a1 a2 a3 a4 a5 a6 a7 a8 a9 a10 a11 a12 a13 a14 a15 a16 a17 a18 a19 a20 a21 a22 a23 a24 a25 a26 a27 a28 thrown_169 loftSize startWind seed draftLoft draftStart draftSeed length textSize start next_ token value error errorAt number undos_169 balloons letters now_169 winds weight room_ pigeons undo_169 named namedWeight namedRegion comesBack distance risk) H → va_D A (w_X9_launch kc a0 a1 a2 a3 a4 a5 a6 a7 a8 a9 a10 a11 a12 a13 a14 a15 a16 a17 a18 a19 a20 a21 a22 a23 a24 a25 a26 a27 a28 thrown_169 loftSize startWind seed draftLoft draftStart draftSeed length textSize start next_ token value error errorAt number undos_169 balloons letters now_169 winds weight room_ pigeons undo_169 named namedWeight namedRegion comesBack distance risk) → va_S A s.heap H locs → lv_has ls 6 [(0, .ref a0), (1, .int x1), (2, .int x2), (3, .int y3_169)] → W p l e ({ frames := 2, cells := 0, slots := 0, locals := 47 }) s m (([.ref a0, .int x1, .int x2] : List Value).toArray) below meth c H locs 0 0 Q (F0 m 169 ls [.int k0_169]) := by
    clear hf
    intro y3_169 thrown_169 undos_169 now_169 undo_169 k0_169 hf H locs ls hP hD hS hl
    unfold f_X9_launch_j169 at hf
    refine lv_istore (lv' := [(4, .int k0_169), (0, .ref a0), (1, .int x1), (2, .int x2), (3, .int y3_169)]) hx hb dX9_launch_169 hl (by decide) rfl (fun ls hl => ?_)
    refine lv_aload_n hx hb dX9_launch_171 rfl (lv_at hl 1 rfl) ?_
    refine va_get (D := D) (ci := 9) (v := .ref a1) (C := RX9) (T := TX9) (N := 45) hx hb hts in_X9 hown hK hP 0 rfl rfl 1 (by decide) lk_13 (fun _ h9 => h9) rfl dX9_launch_172 ?_
    refine lv_iconst (v := 5) hx hb dX9_launch_175 (by decide) ?_
    refine lv_iload_n hx hb dX9_launch_176 rfl (lv_at hl 2 rfl) ?_
    refine lv_iadd hx hb dX9_launch_177 ?_
    refine lv_iload hx hb dX9_launch_178 (lv_at hl 0 rfl) ?_
    obtain ⟨hi, hf⟩ := gIx_some hf
    refine va_iast hx hb hK hP hD hS 3 1 rfl rfl hi dX9_launch_180 (fun H locs hP hD hS => ?_)
    have hP : va_P D vwCl (w_X9_launch kc a0 a1 a2 a3 a4 a5 a6 a7 a8 a9 a10 a11 a12 a13 a14 a15 a16 a17 a18 a19 a20 a21 a22 a23 a24 a25 a26 a27 a28 thrown_169 loftSize startWind seed draftLoft draftStart draftSeed length textSize start next_ token value error errorAt number undos_169 balloons letters (upd now_169 ((5 + x1) : Int32).toNatClampNeg k0_169) winds weight room_ pigeons undo_169 named namedWeight namedRegion comesBack distance risk) H := hP
    have hD : va_D A (w_X9_launch kc a0 a1 a2 a3 a4 a5 a6 a7 a8 a9 a10 a11 a12 a13 a14 a15 a16 a17 a18 a19 a20 a21 a22 a23 a24 a25 a26 a27 a28 thrown_169 loftSize startWind seed draftLoft draftStart draftSeed length textSize start next_ token value error errorAt number undos_169 balloons letters (upd now_169 ((5 + x1) : Int32).toNatClampNeg k0_169) winds weight room_ pigeons undo_169 named namedWeight namedRegion comesBack distance risk) := hD
    refine lv_aload_n hx hb dX9_launch_181 rfl (lv_at hl 1 rfl) ?_
    refine lv_iload_n hx hb dX9_launch_182 rfl (lv_at hl 3 rfl) ?_
    refine lv_iload hx hb dX9_launch_183 (lv_at hl 0 rfl) ?_
    refine lv_iconst (v := 3) hx hb dX9_launch_185 (by decide) ?_
    refine lv_icmp_ne (tgt := 193) hx hb dX9_launch_186 (by decide) (fun hc => ?_) (fun hc => ?_)
    · have hf := o_f hc hf
      refine lv_iconst (v := 1) hx hb dX9_launch_193 (by decide) ?_
      exact J194 _ _ _ _ _ _ _ _ hf _ _ _ hP hD hS (lv_sub hl [1, 2, 4, 0] rfl)
    · have hf := o_t hc hf
      refine lv_iconst (v := 2) hx hb dX9_launch_189 (by decide) ?_
      refine lv_goto (tgt := 194) hx hb dX9_launch_190 (by decide) ?_
      exact J194 _ _ _ _ _ _ _ _ hf _ _ _ hP hD hS (lv_sub hl [1, 2, 4, 0] rfl)
  unfold f_X9_launch at hf
  refine lv_aload_n hx hb dX9_launch_0 rfl (lv_at hl 0 rfl) ?_
  refine lv_iconst (v := 0) hx hb dX9_launch_1 (by decide) ?_
  refine va_put (D := D) (ci := 9) (v := .int 0) (ty := .int) (C := RX9) (T := TX9) (N := 45) hx hb hts in_X9 tyX9 tyX9_ok nmX9 hown hK hP hD hS 0 rfl rfl 0 (by decide) lk_1 (fun _ h9 => h9) rfl (by decide +kernel) rfl rfl (Nat.le_of_ble_eq_true rfl) dX9_launch_2 (fun H locs hP hD hS => ?_)
  have hP : va_P D vwCl (w_X9_launch kc a0 a1 a2 a3 a4 a5 a6 a7 a8 a9 a10 a11 a12 a13 a14 a15 a16 a17 a18 a19 a20 a21 a22 a23 a24 a25 a26 a27 a28 0 loftSize startWind seed draftLoft draftStart draftSeed length textSize start next_ token value error errorAt number undos balloons letters now winds weight room_ pigeons undo named namedWeight namedRegion comesBack distance risk) H := hP
  have hD : va_D A (w_X9_launch kc a0 a1 a2 a3 a4 a5 a6 a7 a8 a9 a10 a11 a12 a13 a14 a15 a16 a17 a18 a19 a20 a21 a22 a23 a24 a25 a26 a27 a28 0 loftSize startWind seed draftLoft draftStart draftSeed length textSize start next_ token value error errorAt number undos balloons letters now winds weight room_ pigeons undo named namedWeight namedRegion comesBack distance risk) := hD
  refine lv_aload_n hx hb dX9_launch_5 rfl (lv_at hl 0 rfl) ?_
  refine lv_iload_n hx hb dX9_launch_6 rfl (lv_at hl 1 rfl) ?_
  obtain ⟨r_1, hc, hf⟩ := ob1_some hf
  refine g_VZ (As := [.int x1]) (rest := []) (ws' := (w_X9_launch kc a0 a1 a2 a3 a4 a5 a6 a7 a8 a9 a10 a11 a12 a13 a14 a15 a16 a17 a18 a19 a20 a21 a22 a23 a24 a25 a26 a27 a28 0 loftSize startWind seed draftLoft draftStart draftSeed length textSize start next_ token value error errorAt number undos balloons letters now winds weight room_ pigeons undo named namedWeight namedRegion comesBack distance risk)) ⟨hx, hb, hml, hown, hts⟩ hN hK hP hD hS hA (c_X9_isBalloon l D kc N a0 a1 a2 a3 a4 a5 a6 a7 a8 a9 a10 a11 a12 a13 a14 a15 a16 a17 a18 a19 a20 a21 a22 a23 a24 a25 a26 a27 a28 0 loftSize startWind seed draftLoft draftStart draftSeed length textSize start next_ token value error errorAt number undos balloons x1 r_1 hc) (cwV 1 hts gX9_launch_X9_isBalloon rfl rfl rfl (by decide +kernel) ⟨Nat.le_of_ble_eq_true rfl, Nat.le_of_ble_eq_true rfl⟩) [0, 1] [2, 3, 4, 5, 6, 7, 8, 9, 10, 11, 12, 13, 14] [13, 14, 0, 1, 2, 3, 4, 5, 6, 7, 8, 9, 10, 11, 12] (by exact ⟨rfl, rfl, by decide, rfl⟩) 0 9 rfl rfl rfl rfl hl.1 rfl (Nat.le_of_ble_eq_true rfl) dX9_launch_7 ⟨Nat.le_refl _, Nat.le_refl _⟩ (fun H locs hz hP hD hS => ?_)
  have hz_2 := hz
  refine lv_if_eq (tgt := 21) hx hb dX9_launch_10 (by decide) (fun hc => ?_) (fun hc => ?_)
  · have hf := o_t hc hf
    refine lv_iconst (v := (-1)) hx hb dX9_launch_21 (by decide) ?_
    cases hf
    exact kR _ _ _ _ hP hD hS dX9_launch_22
  · have hf := o_f hc hf
    refine lv_aload_n hx hb dX9_launch_13 rfl (lv_at hl 0 rfl) ?_
    refine lv_iload_n hx hb dX9_launch_14 rfl (lv_at hl 2 rfl) ?_
    obtain ⟨r_3, hc, hf⟩ := ob1_some hf
    refine g_VZ (As := [.int x2]) (rest := []) (ws' := (w_X9_launch kc a0 a1 a2 a3 a4 a5 a6 a7 a8 a9 a10 a11 a12 a13 a14 a15 a16 a17 a18 a19 a20 a21 a22 a23 a24 a25 a26 a27 a28 0 loftSize startWind seed draftLoft draftStart draftSeed length textSize start next_ token value error errorAt number undos balloons letters now winds weight room_ pigeons undo named namedWeight namedRegion comesBack distance risk)) ⟨hx, hb, hml, hown, hts⟩ hN hK hP hD hS hA (c_X9_areLetters l D kc N a0 a1 a2 a3 a4 a5 a6 a7 a8 a9 a10 a11 a12 a13 a14 a15 a16 a17 a18 a19 a20 a21 a22 a23 a24 a25 a26 a27 a28 0 loftSize startWind seed draftLoft draftStart draftSeed length textSize start next_ token value error errorAt number undos letters x2 r_3 hc) (cwV 1 hts gX9_launch_X9_areLetters rfl rfl rfl (by decide +kernel) ⟨Nat.le_of_ble_eq_true rfl, Nat.le_of_ble_eq_true rfl⟩) [0, 2] [1, 3, 4, 5, 6, 7, 8, 9, 10, 11, 12, 13, 14] [13, 0, 14, 1, 2, 3, 4, 5, 6, 7, 8, 9, 10, 11, 12] (by exact ⟨rfl, rfl, by decide, rfl⟩) 0 9 rfl rfl rfl rfl hl.1 rfl (Nat.le_of_ble_eq_true rfl) dX9_launch_15 ⟨Nat.le_refl _, Nat.le_refl _⟩ (fun H locs hz hP hD hS => ?_)
    have hz_4 := hz
    refine lv_if_ne (tgt := 23) hx hb dX9_launch_18 (by decide) (fun hc => ?_) (fun hc => ?_)
    · have hf := o_f hc hf
      refine lv_aload_n hx hb dX9_launch_23 rfl (lv_at hl 0 rfl) ?_
      refine va_get (D := D) (ci := 9) (v := .ref a1) (C := RX9) (T := TX9) (N := 45) hx hb hts in_X9 hown hK hP 0 rfl rfl 1 (by decide) lk_13 (fun _ h9 => h9) rfl dX9_launch_24 ?_
      refine lv_iconst (v := 5) hx hb dX9_launch_27 (by decide) ?_
      refine lv_iload_n hx hb dX9_launch_28 rfl (lv_at hl 1 rfl) ?_
      refine lv_iadd hx hb dX9_launch_29 ?_
      obtain ⟨hi, hf⟩ := gIx_some hf
      refine va_iald hx hb hK hP 3 1 rfl rfl hi dX9_launch_30 ?_
      refine lv_if_ne (tgt := 55) hx hb dX9_launch_31 (by decide) (fun hc => ?_) (fun hc => ?_)
      · have hf := o_f hc hf
        refine lv_bipush (v := (-2)) hx hb dX9_launch_55 (by decide) ?_
        cases hf
        exact kR _ _ _ _ hP hD hS dX9_launch_57
      · have hf := o_t hc hf
        refine lv_iload_n hx hb dX9_launch_34 rfl (lv_at hl 2 rfl) ?_
        refine lv_aload_n hx hb dX9_launch_35 rfl (lv_at hl 0 rfl) ?_
        refine lv_iconst (v := 0) hx hb dX9_launch_36 (by decide) ?_
        obtain ⟨r_5, hc, hf⟩ := ob1_some hf
        refine g_VI (As := [.int 0]) (rest := [.int x2]) (ws' := (w_X9_launch kc a0 a1 a2 a3 a4 a5 a6 a7 a8 a9 a10 a11 a12 a13 a14 a15 a16 a17 a18 a19 a20 a21 a22 a23 a24 a25 a26 a27 a28 0 loftSize startWind seed draftLoft draftStart draftSeed length textSize start next_ token value error errorAt number undos balloons letters now winds weight room_ pigeons undo named namedWeight namedRegion comesBack distance risk)) ⟨hx, hb, hml, hown, hts⟩ hN hK hP hD hS hA (c_X9_inState l D kc N a0 a1 a2 a3 a4 a5 a6 a7 a8 a9 a10 a11 a12 a13 a14 a15 a16 a17 a18 a19 a20 a21 a22 a23 a24 a25 a26 a27 a28 0 loftSize startWind seed draftLoft draftStart draftSeed length textSize start next_ token value error errorAt number undos letters now 0 r_5 hc) (cwV 1 hts gX9_launch_X9_inState rfl rfl rfl (by decide +kernel) ⟨Nat.le_of_ble_eq_true rfl, Nat.le_of_ble_eq_true rfl⟩) [0, 2, 3] [1, 4, 5, 6, 7, 8, 9, 10, 11, 12, 13, 14] [12, 0, 13, 14, 1, 2, 3, 4, 5, 6, 7, 8, 9, 10, 11] (by exact ⟨rfl, rfl, by decide, rfl⟩) 0 9 rfl rfl rfl rfl hl.1 rfl (Nat.le_of_ble_eq_true rfl) dX9_launch_37 ⟨Nat.le_refl _, Nat.le_refl _⟩ (fun H locs hP hD hS => ?_)
        refine lv_iconst (v := (-1)) hx hb dX9_launch_40 (by decide) ?_
        refine lv_ixor hx hb dX9_launch_41 ?_
        refine lv_iand hx hb dX9_launch_42 ?_
        refine lv_if_ne (tgt := 55) hx hb dX9_launch_43 (by decide) (fun hc => ?_) (fun hc => ?_)
        · have hf := o_f hc hf
          refine lv_bipush (v := (-2)) hx hb dX9_launch_55 (by decide) ?_
          cases hf
          exact kR _ _ _ _ hP hD hS dX9_launch_57
        · have hf := o_t hc hf
          refine lv_aload_n hx hb dX9_launch_46 rfl (lv_at hl 0 rfl) ?_
          refine va_get (D := D) (ci := 9) (v := .ref a6) (C := RX9) (T := TX9) (N := 45) hx hb hts in_X9 hown hK hP 0 rfl rfl 6 (by decide) lk_29 (fun _ h9 => h9) rfl dX9_launch_47 ?_
          refine lv_iconst (v := 0) hx hb dX9_launch_50 (by decide) ?_
          obtain ⟨hi, hf⟩ := gIx_some hf
          refine va_iald hx hb hK hP 4 1 rfl rfl hi dX9_launch_51 ?_
          refine lv_if_ne (tgt := 58) hx hb dX9_launch_52 (by decide) (fun hc => ?_) (fun hc => ?_)
          · have hf := o_f hc hf
            refine lv_aload_n hx hb dX9_launch_58 rfl (lv_at hl 0 rfl) ?_
            refine lv_iload_n hx hb dX9_launch_59 rfl (lv_at hl 2 rfl) ?_
            refine lv_aload_n hx hb dX9_launch_60 rfl (lv_at hl 0 rfl) ?_
            refine va_get (D := D) (ci := 9) (v := .ref a18) (C := RX9) (T := TX9) (N := 45) hx hb hts in_X9 hown hK hP 0 rfl rfl 18 (by decide) lk_65 (fun _ h9 => h9) rfl dX9_launch_61 ?_
            obtain ⟨r_6, hc, hf⟩ := ob1_some hf
            refine g_VI (As := [.int x2, .ref a18]) (rest := []) (ws' := (w_X9_launch kc a0 a1 a2 a3 a4 a5 a6 a7 a8 a9 a10 a11 a12 a13 a14 a15 a16 a17 a18 a19 a20 a21 a22 a23 a24 a25 a26 a27 a28 0 loftSize startWind seed draftLoft draftStart draftSeed length textSize start next_ token value error errorAt number undos balloons letters now winds weight room_ pigeons undo named namedWeight namedRegion comesBack distance risk)) ⟨hx, hb, hml, hown, hts⟩ hN hK hP hD hS hA (c_X9_sumOf l D kc N a0 a1 a2 a3 a4 a5 a6 a7 a8 a9 a10 a11 a12 a13 a14 a15 a16 a17 a18 a19 a20 a21 a22 a23 a24 a25 a26 a27 a28 a18 48 0 loftSize startWind seed draftLoft draftStart draftSeed length textSize start next_ token value error errorAt number undos letters weight x2 r_6 hc) (cwV 2 hts gX9_launch_X9_sumOf rfl rfl rfl (by decide +kernel) ⟨Nat.le_of_ble_eq_true rfl, Nat.le_of_ble_eq_true rfl⟩) [0, 2, 5] [1, 3, 4, 6, 7, 8, 9, 10, 11, 12, 13, 14] [12, 0, 13, 1, 2, 14, 3, 4, 5, 6, 7, 8, 9, 10, 11] (by exact ⟨rfl, rfl, by decide, rfl⟩) 0 9 rfl rfl rfl rfl hl.1 rfl (Nat.le_of_ble_eq_true rfl) dX9_launch_64 ⟨Nat.le_refl _, Nat.le_refl _⟩ (fun H locs hP hD hS => ?_)
            refine lv_aload_n hx hb dX9_launch_67 rfl (lv_at hl 0 rfl) ?_
            refine va_get (D := D) (ci := 9) (v := .ref a15) (C := RX9) (T := TX9) (N := 45) hx hb hts in_X9 hown hK hP 0 rfl rfl 15 (by decide) lk_56 (fun _ h9 => h9) rfl dX9_launch_68 ?_
            refine lv_iload_n hx hb dX9_launch_71 rfl (lv_at hl 1 rfl) ?_
            obtain ⟨hi, hf⟩ := gIx_some hf
            refine va_iald hx hb hK hP 6 1 rfl rfl hi dX9_launch_72 ?_
            refine lv_icmp_le (tgt := 79) hx hb dX9_launch_73 (by decide) (fun hc => ?_) (fun hc => ?_)
            · have hf := o_t hc hf
              refine lv_aload_n hx hb dX9_launch_79 rfl (lv_at hl 0 rfl) ?_
              refine va_get (D := D) (ci := 9) (v := .ref a1) (C := RX9) (T := TX9) (N := 45) hx hb hts in_X9 hown hK hP 0 rfl rfl 1 (by decide) lk_13 (fun _ h9 => h9) rfl dX9_launch_80 ?_
              refine lv_iconst (v := 3) hx hb dX9_launch_83 (by decide) ?_
              obtain ⟨hi, hf⟩ := gIx_some hf
              refine va_iald hx hb hK hP 3 1 rfl rfl hi dX9_launch_84 ?_
              refine lv_aload_n hx hb dX9_launch_85 rfl (lv_at hl 0 rfl) ?_
              refine va_get (D := D) (ci := 9) (v := .ref a16) (C := RX9) (T := TX9) (N := 45) hx hb hts in_X9 hown hK hP 0 rfl rfl 16 (by decide) lk_59 (fun _ h9 => h9) rfl dX9_launch_86 ?_
              refine lv_iload_n hx hb dX9_launch_89 rfl (lv_at hl 1 rfl) ?_
              obtain ⟨hi, hf⟩ := gIx_some hf
              refine va_iald hx hb hK hP 7 1 rfl rfl hi dX9_launch_90 ?_
              refine lv_icmp_ge (tgt := 97) hx hb dX9_launch_91 (by decide) (fun hc => ?_) (fun hc => ?_)
              · have hf := o_t hc hf
                refine lv_aload_n hx hb dX9_launch_97 rfl (lv_at hl 0 rfl) ?_
                obtain ⟨undos_7, undo_8, hc, hf⟩ := ob2_some hf
                refine g_VV (As := []) (rest := []) (ws' := (w_X9_launch kc a0 a1 a2 a3 a4 a5 a6 a7 a8 a9 a10 a11 a12 a13 a14 a15 a16 a17 a18 a19 a20 a21 a22 a23 a24 a25 a26 a27 a28 0 loftSize startWind seed draftLoft draftStart draftSeed length textSize start next_ token value error errorAt number undos_7 balloons letters now winds weight room_ pigeons undo_8 named namedWeight namedRegion comesBack distance risk)) ⟨hx, hb, hml, hown, hts⟩ hN hK hP hD hS hA (c_X9_keeps l D kc N a0 a1 a2 a3 a4 a5 a6 a7 a8 a9 a10 a11 a12 a13 a14 a15 a16 a17 a18 a19 a20 a21 a22 a23 a24 a25 a26 a27 a28 0 loftSize startWind seed draftLoft draftStart draftSeed length textSize start next_ token value error errorAt number undos undo now undos_7 undo_8 hc) (cwV 0 hts gX9_launch_X9_keeps rfl rfl rfl (by decide +kernel) ⟨Nat.le_of_ble_eq_true rfl, Nat.le_of_ble_eq_true rfl⟩) [0, 8, 3] [1, 2, 4, 5, 6, 7, 9, 10, 11, 12, 13, 14] [12, 0, 1, 14, 2, 3, 4, 5, 13, 6, 7, 8, 9, 10, 11] (by exact ⟨rfl, rfl, by decide, rfl⟩) 0 9 rfl rfl rfl rfl hl.1 rfl (Nat.le_of_ble_eq_true rfl) dX9_launch_98 ⟨Nat.le_refl _, Nat.le_refl _⟩ (fun H locs hP hD hS => ?_)
                refine lv_aload_n hx hb dX9_launch_101 rfl (lv_at hl 0 rfl) ?_
                refine va_get (D := D) (ci := 9) (v := .ref a1) (C := RX9) (T := TX9) (N := 45) hx hb hts in_X9 hown hK hP 0 rfl rfl 1 (by decide) lk_13 (fun _ h9 => h9) rfl dX9_launch_102 ?_
                refine lv_iconst (v := 3) hx hb dX9_launch_105 (by decide) ?_
                refine lv_dup2_11 hx hb dX9_launch_106 rfl rfl ?_
                obtain ⟨hi, hf⟩ := gIx_some hf
                refine va_iald hx hb hK hP 3 1 rfl rfl hi dX9_launch_107 ?_
                refine lv_aload_n hx hb dX9_launch_108 rfl (lv_at hl 0 rfl) ?_
                refine va_get (D := D) (ci := 9) (v := .ref a16) (C := RX9) (T := TX9) (N := 45) hx hb hts in_X9 hown hK hP 0 rfl rfl 16 (by decide) lk_59 (fun _ h9 => h9) rfl dX9_launch_109 ?_
                refine lv_iload_n hx hb dX9_launch_112 rfl (lv_at hl 1 rfl) ?_
                obtain ⟨hi, hf⟩ := gIx_some hf
                refine va_iald hx hb hK hP 7 1 rfl rfl hi dX9_launch_113 ?_
                refine lv_isub hx hb dX9_launch_114 ?_
                obtain ⟨hi, hf⟩ := gIx_some hf
                refine va_iast hx hb hK hP hD hS 3 1 rfl rfl hi dX9_launch_115 (fun H locs hP hD hS => ?_)
                have hP : va_P D vwCl (w_X9_launch kc a0 a1 a2 a3 a4 a5 a6 a7 a8 a9 a10 a11 a12 a13 a14 a15 a16 a17 a18 a19 a20 a21 a22 a23 a24 a25 a26 a27 a28 0 loftSize startWind seed draftLoft draftStart draftSeed length textSize start next_ token value error errorAt number undos_7 balloons letters (upd now (3 : Int32).toNatClampNeg ((now (3 : Int32).toNatClampNeg) - (pigeons (x1 : Int32).toNatClampNeg))) winds weight room_ pigeons undo_8 named namedWeight namedRegion comesBack distance risk) H := hP
                have hD : va_D A (w_X9_launch kc a0 a1 a2 a3 a4 a5 a6 a7 a8 a9 a10 a11 a12 a13 a14 a15 a16 a17 a18 a19 a20 a21 a22 a23 a24 a25 a26 a27 a28 0 loftSize startWind seed draftLoft draftStart draftSeed length textSize start next_ token value error errorAt number undos_7 balloons letters (upd now (3 : Int32).toNatClampNeg ((now (3 : Int32).toNatClampNeg) - (pigeons (x1 : Int32).toNatClampNeg))) winds weight room_ pigeons undo_8 named namedWeight namedRegion comesBack distance risk) := hD
                refine lv_aload_n hx hb dX9_launch_116 rfl (lv_at hl 0 rfl) ?_
                refine va_get (D := D) (ci := 9) (v := .ref a1) (C := RX9) (T := TX9) (N := 45) hx hb hts in_X9 hown hK hP 0 rfl rfl 1 (by decide) lk_13 (fun _ h9 => h9) rfl dX9_launch_117 ?_
                refine lv_bipush (v := 25) hx hb dX9_launch_120 (by decide) ?_
                refine lv_iload_n hx hb dX9_launch_122 rfl (lv_at hl 1 rfl) ?_
                refine lv_iadd hx hb dX9_launch_123 ?_
                refine lv_iload_n hx hb dX9_launch_124 rfl (lv_at hl 2 rfl) ?_
                obtain ⟨hi, hf⟩ := gIx_some hf
                refine va_iast hx hb hK hP hD hS 3 1 rfl rfl hi dX9_launch_125 (fun H locs hP hD hS => ?_)
                have hP : va_P D vwCl (w_X9_launch kc a0 a1 a2 a3 a4 a5 a6 a7 a8 a9 a10 a11 a12 a13 a14 a15 a16 a17 a18 a19 a20 a21 a22 a23 a24 a25 a26 a27 a28 0 loftSize startWind seed draftLoft draftStart draftSeed length textSize start next_ token value error errorAt number undos_7 balloons letters (upd (upd now (3 : Int32).toNatClampNeg ((now (3 : Int32).toNatClampNeg) - (pigeons (x1 : Int32).toNatClampNeg))) ((25 + x1) : Int32).toNatClampNeg x2) winds weight room_ pigeons undo_8 named namedWeight namedRegion comesBack distance risk) H := hP
                have hD : va_D A (w_X9_launch kc a0 a1 a2 a3 a4 a5 a6 a7 a8 a9 a10 a11 a12 a13 a14 a15 a16 a17 a18 a19 a20 a21 a22 a23 a24 a25 a26 a27 a28 0 loftSize startWind seed draftLoft draftStart draftSeed length textSize start next_ token value error errorAt number undos_7 balloons letters (upd (upd now (3 : Int32).toNatClampNeg ((now (3 : Int32).toNatClampNeg) - (pigeons (x1 : Int32).toNatClampNeg))) ((25 + x1) : Int32).toNatClampNeg x2) winds weight room_ pigeons undo_8 named namedWeight namedRegion comesBack distance risk) := hD
                refine lv_aload_n hx hb dX9_launch_126 rfl (lv_at hl 0 rfl) ?_
                obtain ⟨r_9, now_10, hc, hf⟩ := ob2_some hf
                refine g_VI (As := []) (rest := []) (ws' := (w_X9_launch kc a0 a1 a2 a3 a4 a5 a6 a7 a8 a9 a10 a11 a12 a13 a14 a15 a16 a17 a18 a19 a20 a21 a22 a23 a24 a25 a26 a27 a28 0 loftSize startWind seed draftLoft draftStart draftSeed length textSize start next_ token value error errorAt number undos_7 balloons letters now_10 winds weight room_ pigeons undo_8 named namedWeight namedRegion comesBack distance risk)) ⟨hx, hb, hml, hown, hts⟩ hN hK hP hD hS hA (c_X9_regionDrawn l D kc N a0 a1 a2 a3 a4 a5 a6 a7 a8 a9 a10 a11 a12 a13 a14 a15 a16 a17 a18 a19 a20 a21 a22 a23 a24 a25 a26 a27 a28 0 loftSize startWind seed draftLoft draftStart draftSeed length textSize start next_ token value error errorAt number undos_7 (upd (upd now (3 : Int32).toNatClampNeg ((now (3 : Int32).toNatClampNeg) - (pigeons (x1 : Int32).toNatClampNeg))) ((25 + x1) : Int32).toNatClampNeg x2) named namedWeight namedRegion r_9 now_10 hc) (cwV 0 hts gX9_launch_X9_regionDrawn rfl rfl rfl (by decide +kernel) ⟨Nat.le_of_ble_eq_true rfl, Nat.le_of_ble_eq_true rfl⟩) [0, 3, 9, 10, 11] [1, 2, 4, 5, 6, 7, 8, 12, 13, 14] [10, 0, 1, 11, 2, 3, 4, 5, 6, 12, 13, 14, 7, 8, 9] (by exact ⟨rfl, rfl, by decide, rfl⟩) 0 9 rfl rfl rfl rfl hl.1 rfl (Nat.le_of_ble_eq_true rfl) dX9_launch_127 ⟨Nat.le_refl _, Nat.le_refl _⟩ (fun H locs hP hD hS => ?_)
                refine lv_istore_n (lv' := [(3, .int r_9), (0, .ref a0), (1, .int x1), (2, .int x2)]) hx hb dX9_launch_130 rfl hl (by decide) rfl (fun ls hl => ?_)
                refine lv_aload_n hx hb dX9_launch_131 rfl (lv_at hl 1 rfl) ?_
                refine va_get (D := D) (ci := 9) (v := .ref a1) (C := RX9) (T := TX9) (N := 45) hx hb hts in_X9 hown hK hP 0 rfl rfl 1 (by decide) lk_13 (fun _ h9 => h9) rfl dX9_launch_132 ?_
                refine lv_bipush (v := 15) hx hb dX9_launch_135 (by decide) ?_
                refine lv_iload_n hx hb dX9_launch_137 rfl (lv_at hl 2 rfl) ?_
                refine lv_iadd hx hb dX9_launch_138 ?_
                refine lv_iload_n hx hb dX9_launch_139 rfl (lv_at hl 0 rfl) ?_
                obtain ⟨hi, hf⟩ := gIx_some hf
                refine va_iast hx hb hK hP hD hS 3 1 rfl rfl hi dX9_launch_140 (fun H locs hP hD hS => ?_)
                have hP : va_P D vwCl (w_X9_launch kc a0 a1 a2 a3 a4 a5 a6 a7 a8 a9 a10 a11 a12 a13 a14 a15 a16 a17 a18 a19 a20 a21 a22 a23 a24 a25 a26 a27 a28 0 loftSize startWind seed draftLoft draftStart draftSeed length textSize start next_ token value error errorAt number undos_7 balloons letters (upd now_10 ((15 + x1) : Int32).toNatClampNeg r_9) winds weight room_ pigeons undo_8 named namedWeight namedRegion comesBack distance risk) H := hP
                have hD : va_D A (w_X9_launch kc a0 a1 a2 a3 a4 a5 a6 a7 a8 a9 a10 a11 a12 a13 a14 a15 a16 a17 a18 a19 a20 a21 a22 a23 a24 a25 a26 a27 a28 0 loftSize startWind seed draftLoft draftStart draftSeed length textSize start next_ token value error errorAt number undos_7 balloons letters (upd now_10 ((15 + x1) : Int32).toNatClampNeg r_9) winds weight room_ pigeons undo_8 named namedWeight namedRegion comesBack distance risk) := hD
                refine lv_iload_n hx hb dX9_launch_141 rfl (lv_at hl 0 rfl) ?_
                refine lv_bipush (v := (-2)) hx hb dX9_launch_142 (by decide) ?_
                refine lv_icmp_ne (tgt := 151) hx hb dX9_launch_144 (by decide) (fun hc => ?_) (fun hc => ?_)
                · have hf := o_f hc hf
                  refine lv_aload_n hx hb dX9_launch_151 rfl (lv_at hl 1 rfl) ?_
                  obtain ⟨r_11, now_12, hc, hf⟩ := ob2_some hf
                  refine g_VI (As := []) (rest := []) (ws' := (w_X9_launch kc a0 a1 a2 a3 a4 a5 a6 a7 a8 a9 a10 a11 a12 a13 a14 a15 a16 a17 a18 a19 a20 a21 a22 a23 a24 a25 a26 a27 a28 0 loftSize startWind seed draftLoft draftStart draftSeed length textSize start next_ token value error errorAt number undos_7 balloons letters now_12 winds weight room_ pigeons undo_8 named namedWeight namedRegion comesBack distance risk)) ⟨hx, hb, hml, hown, hts⟩ hN hK hP hD hS hA (c_X9_draw l D kc N a0 a1 a2 a3 a4 a5 a6 a7 a8 a9 a10 a11 a12 a13 a14 a15 a16 a17 a18 a19 a20 a21 a22 a23 a24 a25 a26 a27 a28 0 loftSize startWind seed draftLoft draftStart draftSeed length textSize start next_ token value error errorAt number undos_7 (upd now_10 ((15 + x1) : Int32).toNatClampNeg r_9) r_11 now_12 hc) (cwV 0 hts gX9_launch_X9_draw rfl rfl rfl (by decide +kernel) ⟨Nat.le_of_ble_eq_true rfl, Nat.le_of_ble_eq_true rfl⟩) [0, 3] [1, 2, 4, 5, 6, 7, 8, 9, 10, 11, 12, 13, 14] [13, 0, 1, 14, 2, 3, 4, 5, 6, 7, 8, 9, 10, 11, 12] (by exact ⟨rfl, rfl, by decide, rfl⟩) 0 9 rfl rfl rfl rfl hl.1 rfl (Nat.le_of_ble_eq_true rfl) dX9_launch_152 ⟨Nat.le_refl _, Nat.le_refl _⟩ (fun H locs hP hD hS => ?_)
                  refine lv_aload_n hx hb dX9_launch_155 rfl (lv_at hl 1 rfl) ?_
                  refine va_get (D := D) (ci := 9) (v := .ref a3) (C := RX9) (T := TX9) (N := 45) hx hb hts in_X9 hown hK hP 0 rfl rfl 3 (by decide) lk_20 (fun _ h9 => h9) rfl dX9_launch_156 ?_
                  refine lv_iload_n hx hb dX9_launch_159 rfl (lv_at hl 0 rfl) ?_
                  obtain ⟨hi, hf⟩ := gIx_some hf
                  refine va_iald hx hb hK hP 14 1 rfl rfl hi dX9_launch_160 ?_
                  refine lv_icmp_ge (tgt := 168) hx hb dX9_launch_161 (by decide) (fun hc => ?_) (fun hc => ?_)
                  · have hf := o_t hc hf
                    refine lv_iconst (v := 3) hx hb dX9_launch_168 (by decide) ?_
                    exact J169 _ _ _ _ _ _ hf _ _ _ hP hD hS (lv_sub hl [1, 2, 3, 0] rfl)
                  · have hf := o_f hc hf
                    refine lv_iconst (v := 2) hx hb dX9_launch_164 (by decide) ?_
                    refine lv_goto (tgt := 169) hx hb dX9_launch_165 (by decide) ?_
                    exact J169 _ _ _ _ _ _ hf _ _ _ hP hD hS (lv_sub hl [1, 2, 3, 0] rfl)
                · have hf := o_t hc hf
                  refine lv_iconst (v := 1) hx hb dX9_launch_147 (by decide) ?_
                  refine lv_goto (tgt := 169) hx hb dX9_launch_148 (by decide) ?_
                  exact J169 _ _ _ _ _ _ hf _ _ _ hP hD hS (lv_sub hl [1, 2, 3, 0] rfl)
              · have hf := o_f hc hf
                refine lv_bipush (v := (-4)) hx hb dX9_launch_94 (by decide) ?_
                cases hf
                exact kR _ _ _ _ hP hD hS dX9_launch_96
            · have hf := o_f hc hf
              refine lv_bipush (v := (-3)) hx hb dX9_launch_76 (by decide) ?_
              cases hf
              exact kR _ _ _ _ hP hD hS dX9_launch_78
          · have hf := o_t hc hf
            refine lv_bipush (v := (-2)) hx hb dX9_launch_55 (by decide) ?_
            cases hf
            exact kR _ _ _ _ hP hD hS dX9_launch_57
    · have hf := o_t hc hf
      refine lv_iconst (v := (-1)) hx hb dX9_launch_21 (by decide) ?_
      cases hf
      exact kR _ _ _ _ hP hD hS dX9_launch_22
abbrev w_X9_answers (kc : Nat → ClassId) (a0 a1 a2 a3 a4 a5 a6 a7 a8 a9 a10 a11 a12 a13 a14 a15 a16 a17 a18 a19 a20 a21 a22 a23 a24 a25 a26 a27 a28 : Nat) (thrown : Int32) (loftSize : Int32) (startWind : Int32) (seed : Int32) (draftLoft : Int32) (draftStart : Int32) (draftSeed : Int32) (length : Int32) (textSize : Int32) (start : Int32) (next_ : Int32) (token : Int32) (value : Int32) (error : Int32) (errorAt : Int32) (number : Int32) (undos : Int32) (letters : Nat → Int32) (now : Nat → Int32) : va_W := [(a0, .inr (9, [.int thrown, .ref a1, .ref a2, .ref a3, .ref a4, .ref a5, .ref a6, .ref a7, .ref a8, .ref a9, .ref a10, .ref a11, .ref a12, .ref a13, .ref a14, .ref a15, .ref a16, .ref a17, .ref a18, .ref a19, .int loftSize, .int startWind, .int seed, .int draftLoft, .int draftStart, .int draftSeed, .ref a20, .int length, .int textSize, .int start, .int next_, .int token, .int value, .int error, .int errorAt, .int number, .ref a21, .ref a22, .ref a23, .ref a24, .ref a25, .int undos, .ref a26, .ref a27, .ref a28])), (a17, .inl (kc 1, 2, .inl letters)), (a1, .inl (kc 1, 213, .inl now))]
set_option maxHeartbeats 4000000 in
set_option maxRecDepth 100000 in
theorem c_X9_answers (l : Launch) (D : va_G) (kc : Nat → ClassId) (N : Nat) (a0 a1 a2 a3 a4 a5 a6 a7 a8 a9 a10 a11 a12 a13 a14 a15 a16 a17 a18 a19 a20 a21 a22 a23 a24 a25 a26 a27 a28 : Nat) (thrown : Int32) (loftSize : Int32) (startWind : Int32) (seed : Int32) (draftLoft : Int32) (draftStart : Int32) (draftSeed : Int32) (length : Int32) (textSize : Int32) (start : Int32) (next_ : Int32) (token : Int32) (value : Int32) (error : Int32) (errorAt : Int32) (number : Int32) (undos : Int32) (letters : Nat → Int32) (now : Nat → Int32) (x1 : Int32) (now' : Nat → Int32) (hf : f_X9_answers N letters now x1 = some now') : MV l yX9_answers wsX9_answers ({ frames := 1, cells := 0, slots := 0, locals := 21 }) D kc [.ref a0, .int x1] (w_X9_answers kc a0 a1 a2 a3 a4 a5 a6 a7 a8 a9 a10 a11 a12 a13 a14 a15 a16 a17 a18 a19 a20 a21 a22 a23 a24 a25 a26 a27 a28 thrown loftSize startWind seed draftLoft draftStart draftSeed length textSize start next_ token value error errorAt number undos letters now) (w_X9_answers kc a0 a1 a2 a3 a4 a5 a6 a7 a8 a9 a10 a11 a12 a13 a14 a15 a16 a17 a18 a19 a20 a21 a22 a23 a24 a25 a26 a27 a28 thrown loftSize startWind seed draftLoft draftStart draftSeed length textSize start next_ token value error errorAt number undos letters now') := by
  refine gM_V (cc := cX9_answers) (maxL := 3) (by decide) rfl (Nat.le_of_ble_eq_true rfl) ?_
  intro p e s m below meth c A ls Q hx hb hml hown hts hN hK hP hD hA hl kR
  have hS : va_S A s.heap s.heap [] := va_S.rf
  have hl : lv_has ls 3 [(0, .ref a0), (1, .int x1)] := hl
  have in_X9 : ∀ w ∈ u_ws RX9 TX9 45, w ∈ wsX9_answers := by decide +kernel
  have lk_62 := hts (.fieldLink RX9 62 "BalloonMailModel" "letters" "[I") (by decide +kernel)
  have lk_13 := hts (.fieldLink RX9 13 "BalloonMailModel" "now" "[I") (by decide +kernel)
  unfold f_X9_answers at hf
  refine lv_iconst (v := 0) hx hb dX9_answers_0 (by decide) ?_
  refine lv_istore_n (lv' := [(2, .int 0), (0, .ref a0), (1, .int x1)]) hx hb dX9_answers_1 rfl hl (by decide) rfl (fun ls hl => ?_)
  have L2 : ∀ (n : Nat) (y2_2 : Int32) (now_2 : Nat → Int32) (y2_2o : Int32) (now_2o : Nat → Int32), f_X9_answers_2 N letters x1 n y2_2 now_2 = some (y2_2o, now_2o) → (∀ (H : Heap) (locs : List Loc) (ls : Array Slot), va_P D vwCl (w_X9_answers kc a0 a1 a2 a3 a4 a5 a6 a7 a8 a9 a10 a11 a12 a13 a14 a15 a16 a17 a18 a19 a20 a21 a22 a23 a24 a25 a26 a27 a28 thrown loftSize startWind seed draftLoft draftStart draftSeed length textSize start next_ token value error errorAt number undos letters now_2o) H → va_D A (w_X9_answers kc a0 a1 a2 a3 a4 a5 a6 a7 a8 a9 a10 a11 a12 a13 a14 a15 a16 a17 a18 a19 a20 a21 a22 a23 a24 a25 a26 a27 a28 thrown loftSize startWind seed draftLoft draftStart draftSeed length textSize start next_ token value error errorAt number undos letters now_2o) → va_S A s.heap H locs → lv_has ls 3 [(0, .ref a0), (1, .int x1), (2, .int y2_2o)] → W p l e ({ frames := 1, cells := 0, slots := 0, locals := 21 }) s m (([.ref a0, .int x1] : List Value).toArray) below meth c H locs 0 0 Q (F0 m 72 ls [])) → ∀ (H : Heap) (locs : List Loc) (ls : Array Slot), va_P D vwCl (w_X9_answers kc a0 a1 a2 a3 a4 a5 a6 a7 a8 a9 a10 a11 a12 a13 a14 a15 a16 a17 a18 a19 a20 a21 a22 a23 a24 a25 a26 a27 a28 thrown loftSize startWind seed draftLoft draftStart draftSeed length textSize start next_ token value error errorAt number undos letters now_2) H → va_D A (w_X9_answers kc a0 a1 a2 a3 a4 a5 a6 a7 a8 a9 a10 a11 a12 a13 a14 a15 a16 a17 a18 a19 a20 a21 a22 a23 a24 a25 a26 a27 a28 thrown loftSize startWind seed draftLoft draftStart draftSeed length textSize start next_ token value error errorAt number undos letters now_2) → va_S A s.heap H locs → lv_has ls 3 [(0, .ref a0), (1, .int x1), (2, .int y2_2)] → W p l e ({ frames := 1, cells := 0, slots := 0, locals := 21 }) s m (([.ref a0, .int x1] : List Value).toArray) below meth c H locs 0 0 Q (F0 m 2 ls []) := by
    intro n
    induction n with
    | zero => intro _ _ _ _ hf; rw [f_X9_answers_2.eq_1] at hf; cases hf
    | succ n ih =>
      intro y2_2 now_2 y2_2o now_2o hf hk H locs ls hP hD hS hl
      rw [f_X9_answers_2.eq_2] at hf
      refine lv_iload_n hx hb dX9_answers_2 rfl (lv_at hl 2 rfl) ?_
      refine lv_aload_n hx hb dX9_answers_3 rfl (lv_at hl 0 rfl) ?_
      refine va_get (D := D) (ci := 9) (v := .ref a17) (C := RX9) (T := TX9) (N := 45) hx hb hts in_X9 hown hK hP 0 rfl rfl 17 (by decide) lk_62 (fun _ h9 => h9) rfl dX9_answers_4 ?_
      refine lv_iconst (v := 0) hx hb dX9_answers_7 (by decide) ?_
      obtain ⟨hi, hf⟩ := gIx_some hf
      refine va_iald hx hb hK hP 1 1 rfl rfl hi dX9_answers_8 ?_
      refine lv_icmp_ge (tgt := 72) hx hb dX9_answers_9 (by decide) (fun hc => ?_) (fun hc => ?_)
      · have hf := o_t hc hf
        cases hf
        exact hk _ _ _ hP hD hS (lv_sub hl [0, 1, 2] rfl)
      · have hf := o_f hc hf
        refine lv_aload_n hx hb dX9_answers_12 rfl (lv_at hl 0 rfl) ?_
        refine va_get (D := D) (ci := 9) (v := .ref a1) (C := RX9) (T := TX9) (N := 45) hx hb hts in_X9 hown hK hP 0 rfl rfl 1 (by decide) lk_13 (fun _ h9 => h9) rfl dX9_answers_13 ?_
        refine lv_bipush (v := 25) hx hb dX9_answers_16 (by decide) ?_
        refine lv_iload_n hx hb dX9_answers_18 rfl (lv_at hl 1 rfl) ?_
        refine lv_iadd hx hb dX9_answers_19 ?_
        obtain ⟨hi, hf⟩ := gIx_some hf
        refine va_iald hx hb hK hP 2 1 rfl rfl hi dX9_answers_20 ?_
        refine lv_iload_n hx hb dX9_answers_21 rfl (lv_at hl 2 rfl) ?_
        obtain ⟨r_1, hc, hf⟩ := ob1_some hf
        refine g_SZ (As := [.int (now_2 ((25 + x1) : Int32).toNatClampNeg), .int y2_2]) (rest := []) (ws' := (w_X9_answers kc a0 a1 a2 a3 a4 a5 a6 a7 a8 a9 a10 a11 a12 a13 a14 a15 a16 a17 a18 a19 a20 a21 a22 a23 a24 a25 a26 a27 a28 thrown loftSize startWind seed draftLoft draftStart draftSeed length textSize start next_ token value error errorAt number undos letters now_2)) ⟨hx, hb, hml, hown, hts⟩ hN hK hP hD hS hA (c_X9_has l D kc N (now_2 ((25 + x1) : Int32).toNatClampNeg) y2_2 r_1 hc) (va_cwS 2 hts gX9_answers_X9_has rfl rfl rfl (by decide +kernel) ⟨Nat.le_of_ble_eq_true rfl, Nat.le_of_ble_eq_true rfl⟩) [] [0, 1, 2] [0, 1, 2] (by exact ⟨rfl, rfl, by decide, rfl⟩) rfl hl.1 rfl (Nat.le_of_ble_eq_true rfl) dX9_answers_22 ⟨Nat.le_refl _, Nat.le_refl _⟩ (fun H locs hz hP hD hS => ?_)
        have hz_2 := hz
        refine lv_if_eq (tgt := 66) hx hb dX9_answers_25 (by decide) (fun hc => ?_) (fun hc => ?_)
        · have hf := o_t hc hf
          refine lv_iinc (v := (y2_2 + 1)) (lv' := [(2, .int (y2_2 + 1)), (0, .ref a0), (1, .int x1)]) hx hb dX9_answers_66 hl (k := 2) rfl (by rfl) (by decide) rfl (fun ls hl => ?_)
          refine lv_goto (tgt := 2) hx hb dX9_answers_69 (by decide) ?_
          exact ih _ _ _ _ hf hk _ _ _ hP hD hS (lv_sub hl [1, 2, 0] rfl)
        · have hf := o_f hc hf
          refine lv_aload_n hx hb dX9_answers_28 rfl (lv_at hl 0 rfl) ?_
          refine va_get (D := D) (ci := 9) (v := .ref a1) (C := RX9) (T := TX9) (N := 45) hx hb hts in_X9 hown hK hP 0 rfl rfl 1 (by decide) lk_13 (fun _ h9 => h9) rfl dX9_answers_29 ?_
          refine lv_bipush (v := 35) hx hb dX9_answers_32 (by decide) ?_
          refine lv_iload_n hx hb dX9_answers_34 rfl (lv_at hl 2 rfl) ?_
          refine lv_iadd hx hb dX9_answers_35 ?_
          obtain ⟨hi, hf⟩ := gIx_some hf
          refine va_iald hx hb hK hP 2 1 rfl rfl hi dX9_answers_36 ?_
          refine lv_iconst (v := 2) hx hb dX9_answers_37 (by decide) ?_
          refine lv_icmp_ne (tgt := 66) hx hb dX9_answers_38 (by decide) (fun hc => ?_) (fun hc => ?_)
          · have hf := o_f hc hf
            refine lv_iinc (v := (y2_2 + 1)) (lv' := [(2, .int (y2_2 + 1)), (0, .ref a0), (1, .int x1)]) hx hb dX9_answers_66 hl (k := 2) rfl (by rfl) (by decide) rfl (fun ls hl => ?_)
            refine lv_goto (tgt := 2) hx hb dX9_answers_69 (by decide) ?_
            exact ih _ _ _ _ hf hk _ _ _ hP hD hS (lv_sub hl [1, 2, 0] rfl)
          · have hf := o_t hc hf
            refine lv_aload_n hx hb dX9_answers_41 rfl (lv_at hl 0 rfl) ?_
            refine va_get (D := D) (ci := 9) (v := .ref a1) (C := RX9) (T := TX9) (N := 45) hx hb hts in_X9 hown hK hP 0 rfl rfl 1 (by decide) lk_13 (fun _ h9 => h9) rfl dX9_answers_42 ?_
            refine lv_bipush (v := 35) hx hb dX9_answers_45 (by decide) ?_
            refine lv_iload_n hx hb dX9_answers_47 rfl (lv_at hl 2 rfl) ?_
            refine lv_iadd hx hb dX9_answers_48 ?_
            refine lv_iconst (v := 3) hx hb dX9_answers_49 (by decide) ?_
            obtain ⟨hi, hf⟩ := gIx_some hf
            refine va_iast hx hb hK hP hD hS 2 1 rfl rfl hi dX9_answers_50 (fun H locs hP hD hS => ?_)
            have hP : va_P D vwCl (w_X9_answers kc a0 a1 a2 a3 a4 a5 a6 a7 a8 a9 a10 a11 a12 a13 a14 a15 a16 a17 a18 a19 a20 a21 a22 a23 a24 a25 a26 a27 a28 thrown loftSize startWind seed draftLoft draftStart draftSeed length textSize start next_ token value error errorAt number undos letters (upd now_2 ((35 + y2_2) : Int32).toNatClampNeg 3)) H := hP
            have hD : va_D A (w_X9_answers kc a0 a1 a2 a3 a4 a5 a6 a7 a8 a9 a10 a11 a12 a13 a14 a15 a16 a17 a18 a19 a20 a21 a22 a23 a24 a25 a26 a27 a28 thrown loftSize startWind seed draftLoft draftStart draftSeed length textSize start next_ token value error errorAt number undos letters (upd now_2 ((35 + y2_2) : Int32).toNatClampNeg 3)) := hD
            refine lv_aload_n hx hb dX9_answers_51 rfl (lv_at hl 0 rfl) ?_
            refine va_get (D := D) (ci := 9) (v := .ref a1) (C := RX9) (T := TX9) (N := 45) hx hb hts in_X9 hown hK hP 0 rfl rfl 1 (by decide) lk_13 (fun _ h9 => h9) rfl dX9_answers_52 ?_
            refine lv_bipush (v := 59) hx hb dX9_answers_55 (by decide) ?_
            refine lv_iload_n hx hb dX9_answers_57 rfl (lv_at hl 2 rfl) ?_
            refine lv_iadd hx hb dX9_answers_58 ?_
            refine lv_aload_n hx hb dX9_answers_59 rfl (lv_at hl 0 rfl) ?_
            refine va_get (D := D) (ci := 9) (v := .ref a1) (C := RX9) (T := TX9) (N := 45) hx hb hts in_X9 hown hK hP 0 rfl rfl 1 (by decide) lk_13 (fun _ h9 => h9) rfl dX9_answers_60 ?_
            refine lv_iconst (v := 0) hx hb dX9_answers_63 (by decide) ?_
            obtain ⟨hi, hf⟩ := gIx_some hf
            refine va_iald hx hb hK hP 2 1 rfl rfl hi dX9_answers_64 ?_
            obtain ⟨hi, hf⟩ := gIx_some hf
            refine va_iast hx hb hK hP hD hS 2 1 rfl rfl hi dX9_answers_65 (fun H locs hP hD hS => ?_)
            have hP : va_P D vwCl (w_X9_answers kc a0 a1 a2 a3 a4 a5 a6 a7 a8 a9 a10 a11 a12 a13 a14 a15 a16 a17 a18 a19 a20 a21 a22 a23 a24 a25 a26 a27 a28 thrown loftSize startWind seed draftLoft draftStart draftSeed length textSize start next_ token value error errorAt number undos letters (upd (upd now_2 ((35 + y2_2) : Int32).toNatClampNeg 3) ((59 + y2_2) : Int32).toNatClampNeg ((upd now_2 ((35 + y2_2) : Int32).toNatClampNeg 3) (0 : Int32).toNatClampNeg))) H := hP
            have hD : va_D A (w_X9_answers kc a0 a1 a2 a3 a4 a5 a6 a7 a8 a9 a10 a11 a12 a13 a14 a15 a16 a17 a18 a19 a20 a21 a22 a23 a24 a25 a26 a27 a28 thrown loftSize startWind seed draftLoft draftStart draftSeed length textSize start next_ token value error errorAt number undos letters (upd (upd now_2 ((35 + y2_2) : Int32).toNatClampNeg 3) ((59 + y2_2) : Int32).toNatClampNeg ((upd now_2 ((35 + y2_2) : Int32).toNatClampNeg 3) (0 : Int32).toNatClampNeg))) := hD
            refine lv_iinc (v := (y2_2 + 1)) (lv' := [(2, .int (y2_2 + 1)), (0, .ref a0), (1, .int x1)]) hx hb dX9_answers_66 hl (k := 2) rfl (by rfl) (by decide) rfl (fun ls hl => ?_)
            refine lv_goto (tgt := 2) hx hb dX9_answers_69 (by decide) ?_
            exact ih _ _ _ _ hf hk _ _ _ hP hD hS (lv_sub hl [1, 2, 0] rfl)
  obtain ⟨y2_2o, now_2o, hc, hf⟩ := ob2_some hf
  refine L2 N _ _ _ _ hc (fun H locs ls hP hD hS hl => ?_) _ _ _ hP hD hS (lv_sub hl [1, 2, 0] rfl)
  cases hf
  exact kR _ _ _ _ hP hD hS dX9_answers_72
abbrev w_X9_comeBack (kc : Nat → ClassId) (a0 a1 a2 a3 a4 a5 a6 a7 a8 a9 a10 a11 a12 a13 a14 a15 a16 a17 a18 a19 a20 a21 a22 a23 a24 a25 a26 a27 a28 : Nat) (thrown : Int32) (loftSize : Int32) (startWind : Int32) (seed : Int32) (draftLoft : Int32) (draftStart : Int32) (draftSeed : Int32) (length : Int32) (textSize : Int32) (start : Int32) (next_ : Int32) (token : Int32) (value : Int32) (error : Int32) (errorAt : Int32) (number : Int32) (undos : Int32) (now : Nat → Int32) (letters : Nat → Int32) : va_W := [(a0, .inr (9, [.int thrown, .ref a1, .ref a2, .ref a3, .ref a4, .ref a5, .ref a6, .ref a7, .ref a8, .ref a9, .ref a10, .ref a11, .ref a12, .ref a13, .ref a14, .ref a15, .ref a16, .ref a17, .ref a18, .ref a19, .int loftSize, .int startWind, .int seed, .int draftLoft, .int draftStart, .int draftSeed, .ref a20, .int length, .int textSize, .int start, .int next_, .int token, .int value, .int error, .int errorAt, .int number, .ref a21, .ref a22, .ref a23, .ref a24, .ref a25, .int undos, .ref a26, .ref a27, .ref a28])), (a1, .inl (kc 1, 213, .inl now)), (a17, .inl (kc 1, 2, .inl letters))]
set_option maxHeartbeats 4000000 in
set_option maxRecDepth 100000 in
theorem c_X9_comeBack (l : Launch) (D : va_G) (kc : Nat → ClassId) (N : Nat) (a0 a1 a2 a3 a4 a5 a6 a7 a8 a9 a10 a11 a12 a13 a14 a15 a16 a17 a18 a19 a20 a21 a22 a23 a24 a25 a26 a27 a28 : Nat) (thrown : Int32) (loftSize : Int32) (startWind : Int32) (seed : Int32) (draftLoft : Int32) (draftStart : Int32) (draftSeed : Int32) (length : Int32) (textSize : Int32) (start : Int32) (next_ : Int32) (token : Int32) (value : Int32) (error : Int32) (errorAt : Int32) (number : Int32) (undos : Int32) (now : Nat → Int32) (letters : Nat → Int32) (now' : Nat → Int32) (hf : f_X9_comeBack N now letters = some now') : MV l yX9_comeBack wsX9_comeBack ({ frames := 2, cells := 0, slots := 0, locals := 47 }) D kc [.ref a0] (w_X9_comeBack kc a0 a1 a2 a3 a4 a5 a6 a7 a8 a9 a10 a11 a12 a13 a14 a15 a16 a17 a18 a19 a20 a21 a22 a23 a24 a25 a26 a27 a28 thrown loftSize startWind seed draftLoft draftStart draftSeed length textSize start next_ token value error errorAt number undos now letters) (w_X9_comeBack kc a0 a1 a2 a3 a4 a5 a6 a7 a8 a9 a10 a11 a12 a13 a14 a15 a16 a17 a18 a19 a20 a21 a22 a23 a24 a25 a26 a27 a28 thrown loftSize startWind seed draftLoft draftStart draftSeed length textSize start next_ token value error errorAt number undos now' letters) := by
  refine gM_V (cc := cX9_comeBack) (maxL := 5) (by decide) rfl (Nat.le_of_ble_eq_true rfl) ?_
  intro p e s m below meth c A ls Q hx hb hml hown hts hN hK hP hD hA hl kR
  have hS : va_S A s.heap s.heap [] := va_S.rf
  have hl : lv_has ls 5 [(0, .ref a0)] := hl
  have in_X9 : ∀ w ∈ u_ws RX9 TX9 45, w ∈ wsX9_comeBack := by decide +kernel
  have lk_13 := hts (.fieldLink RX9 13 "BalloonMailModel" "now" "[I") (by decide +kernel)
  unfold f_X9_comeBack at hf
  refine lv_aload_n hx hb dX9_comeBack_0 rfl (lv_at hl 0 rfl) ?_
  refine va_get (D := D) (ci := 9) (v := .ref a1) (C := RX9) (T := TX9) (N := 45) hx hb hts in_X9 hown hK hP 0 rfl rfl 1 (by decide) lk_13 (fun _ h9 => h9) rfl dX9_comeBack_1 ?_
  refine lv_bipush (v := 83) hx hb dX9_comeBack_4 (by decide) ?_
  obtain ⟨hi, hf⟩ := gIx_some hf
  refine va_iald hx hb hK hP 1 1 rfl rfl hi dX9_comeBack_6 ?_
  refine lv_istore_n (lv' := [(1, .int (now (83 : Int32).toNatClampNeg)), (0, .ref a0)]) hx hb dX9_comeBack_7 rfl hl (by decide) rfl (fun ls hl => ?_)
  refine lv_iconst (v := 0) hx hb dX9_comeBack_8 (by decide) ?_
  refine lv_istore_n (lv' := [(2, .int 0), (1, .int (now (83 : Int32).toNatClampNeg)), (0, .ref a0)]) hx hb dX9_comeBack_9 rfl hl (by decide) rfl (fun ls hl => ?_)
  refine lv_iconst (v := 0) hx hb dX9_comeBack_10 (by decide) ?_
  refine lv_istore_n (lv' := [(3, .int 0), (2, .int 0), (1, .int (now (83 : Int32).toNatClampNeg)), (0, .ref a0)]) hx hb dX9_comeBack_11 rfl hl (by decide) rfl (fun ls hl => ?_)
  have L12 : ∀ (z1_12 : Int32) (n : Nat) (y3_12 : Int32) (y2_12 : Int32) (now_12 : Nat → Int32) (y3_12o : Int32) (y2_12o : Int32) (now_12o : Nat → Int32), f_X9_comeBack_12 N letters z1_12 n y3_12 y2_12 now_12 = some (y3_12o, y2_12o, now_12o) → (∀ (H : Heap) (locs : List Loc) (ls : Array Slot), va_P D vwCl (w_X9_comeBack kc a0 a1 a2 a3 a4 a5 a6 a7 a8 a9 a10 a11 a12 a13 a14 a15 a16 a17 a18 a19 a20 a21 a22 a23 a24 a25 a26 a27 a28 thrown loftSize startWind seed draftLoft draftStart draftSeed length textSize start next_ token value error errorAt number undos now_12o letters) H → va_D A (w_X9_comeBack kc a0 a1 a2 a3 a4 a5 a6 a7 a8 a9 a10 a11 a12 a13 a14 a15 a16 a17 a18 a19 a20 a21 a22 a23 a24 a25 a26 a27 a28 thrown loftSize startWind seed draftLoft draftStart draftSeed length textSize start next_ token value error errorAt number undos now_12o letters) → va_S A s.heap H locs → lv_has ls 5 [(0, .ref a0), (1, .int z1_12), (2, .int y2_12o), (3, .int y3_12o)] → W p l e ({ frames := 2, cells := 0, slots := 0, locals := 47 }) s m (([.ref a0] : List Value).toArray) below meth c H locs 0 0 Q (F0 m 110 ls [])) → ∀ (H : Heap) (locs : List Loc) (ls : Array Slot), va_P D vwCl (w_X9_comeBack kc a0 a1 a2 a3 a4 a5 a6 a7 a8 a9 a10 a11 a12 a13 a14 a15 a16 a17 a18 a19 a20 a21 a22 a23 a24 a25 a26 a27 a28 thrown loftSize startWind seed draftLoft draftStart draftSeed length textSize start next_ token value error errorAt number undos now_12 letters) H → va_D A (w_X9_comeBack kc a0 a1 a2 a3 a4 a5 a6 a7 a8 a9 a10 a11 a12 a13 a14 a15 a16 a17 a18 a19 a20 a21 a22 a23 a24 a25 a26 a27 a28 thrown loftSize startWind seed draftLoft draftStart draftSeed length textSize start next_ token value error errorAt number undos now_12 letters) → va_S A s.heap H locs → lv_has ls 5 [(0, .ref a0), (1, .int z1_12), (2, .int y2_12), (3, .int y3_12)] → W p l e ({ frames := 2, cells := 0, slots := 0, locals := 47 }) s m (([.ref a0] : List Value).toArray) below meth c H locs 0 0 Q (F0 m 12 ls []) := by
    intro z1_12 n
    induction n with
    | zero => intro _ _ _ _ _ _ hf; rw [f_X9_comeBack_12.eq_1] at hf; cases hf
    | succ n ih =>
      intro y3_12 y2_12 now_12 y3_12o y2_12o now_12o hf hk H locs ls hP hD hS hl
      rw [f_X9_comeBack_12.eq_2] at hf
      refine lv_iload_n hx hb dX9_comeBack_12 rfl (lv_at hl 3 rfl) ?_
      refine lv_iload_n hx hb dX9_comeBack_13 rfl (lv_at hl 1 rfl) ?_
      refine lv_icmp_ge (tgt := 110) hx hb dX9_comeBack_14 (by decide) (fun hc => ?_) (fun hc => ?_)
      · have hf := o_t hc hf
        cases hf
        exact hk _ _ _ hP hD hS (lv_sub hl [0, 1, 2, 3] rfl)
      · have hf := o_f hc hf
        refine lv_aload_n hx hb dX9_comeBack_17 rfl (lv_at hl 0 rfl) ?_
        refine va_get (D := D) (ci := 9) (v := .ref a1) (C := RX9) (T := TX9) (N := 45) hx hb hts in_X9 hown hK hP 0 rfl rfl 1 (by decide) lk_13 (fun _ h9 => h9) rfl dX9_comeBack_18 ?_
        refine lv_bipush (v := 84) hx hb dX9_comeBack_21 (by decide) ?_
        refine lv_iload_n hx hb dX9_comeBack_23 rfl (lv_at hl 3 rfl) ?_
        refine lv_iadd hx hb dX9_comeBack_24 ?_
        obtain ⟨hi, hf⟩ := gIx_some hf
        refine va_iald hx hb hK hP 1 1 rfl rfl hi dX9_comeBack_25 ?_
        refine lv_istore (lv' := [(4, .int (now_12 ((84 + y3_12) : Int32).toNatClampNeg)), (0, .ref a0), (1, .int z1_12), (2, .int y2_12), (3, .int y3_12)]) hx hb dX9_comeBack_26 hl (by decide) rfl (fun ls hl => ?_)
        refine lv_aload_n hx hb dX9_comeBack_28 rfl (lv_at hl 1 rfl) ?_
        refine va_get (D := D) (ci := 9) (v := .ref a1) (C := RX9) (T := TX9) (N := 45) hx hb hts in_X9 hown hK hP 0 rfl rfl 1 (by decide) lk_13 (fun _ h9 => h9) rfl dX9_comeBack_29 ?_
        refine lv_bipush (v := 124) hx hb dX9_comeBack_32 (by decide) ?_
        refine lv_iload_n hx hb dX9_comeBack_34 rfl (lv_at hl 4 rfl) ?_
        refine lv_iadd hx hb dX9_comeBack_35 ?_
        obtain ⟨hi, hf⟩ := gIx_some hf
        refine va_iald hx hb hK hP 1 1 rfl rfl hi dX9_comeBack_36 ?_
        refine lv_aload_n hx hb dX9_comeBack_37 rfl (lv_at hl 1 rfl) ?_
        refine va_get (D := D) (ci := 9) (v := .ref a1) (C := RX9) (T := TX9) (N := 45) hx hb hts in_X9 hown hK hP 0 rfl rfl 1 (by decide) lk_13 (fun _ h9 => h9) rfl dX9_comeBack_38 ?_
        refine lv_iconst (v := 0) hx hb dX9_comeBack_41 (by decide) ?_
        obtain ⟨hi, hf⟩ := gIx_some hf
        refine va_iald hx hb hK hP 1 1 rfl rfl hi dX9_comeBack_42 ?_
        refine lv_icmp_le (tgt := 81) hx hb dX9_comeBack_43 (by decide) (fun hc => ?_) (fun hc => ?_)
        · have hf := o_t hc hf
          refine lv_aload_n hx hb dX9_comeBack_81 rfl (lv_at hl 1 rfl) ?_
          refine va_get (D := D) (ci := 9) (v := .ref a1) (C := RX9) (T := TX9) (N := 45) hx hb hts in_X9 hown hK hP 0 rfl rfl 1 (by decide) lk_13 (fun _ h9 => h9) rfl dX9_comeBack_82 ?_
          refine lv_iconst (v := 3) hx hb dX9_comeBack_85 (by decide) ?_
          refine lv_dup2_11 hx hb dX9_comeBack_86 rfl rfl ?_
          obtain ⟨hi, hf⟩ := gIx_some hf
          refine va_iald hx hb hK hP 1 1 rfl rfl hi dX9_comeBack_87 ?_
          refine lv_iconst (v := 1) hx hb dX9_comeBack_88 (by decide) ?_
          refine lv_iadd hx hb dX9_comeBack_89 ?_
          obtain ⟨hi, hf⟩ := gIx_some hf
          refine va_iast hx hb hK hP hD hS 1 1 rfl rfl hi dX9_comeBack_90 (fun H locs hP hD hS => ?_)
          have hP : va_P D vwCl (w_X9_comeBack kc a0 a1 a2 a3 a4 a5 a6 a7 a8 a9 a10 a11 a12 a13 a14 a15 a16 a17 a18 a19 a20 a21 a22 a23 a24 a25 a26 a27 a28 thrown loftSize startWind seed draftLoft draftStart draftSeed length textSize start next_ token value error errorAt number undos (upd now_12 (3 : Int32).toNatClampNeg ((now_12 (3 : Int32).toNatClampNeg) + 1)) letters) H := hP
          have hD : va_D A (w_X9_comeBack kc a0 a1 a2 a3 a4 a5 a6 a7 a8 a9 a10 a11 a12 a13 a14 a15 a16 a17 a18 a19 a20 a21 a22 a23 a24 a25 a26 a27 a28 thrown loftSize startWind seed draftLoft draftStart draftSeed length textSize start next_ token value error errorAt number undos (upd now_12 (3 : Int32).toNatClampNeg ((now_12 (3 : Int32).toNatClampNeg) + 1)) letters) := hD
          refine lv_aload_n hx hb dX9_comeBack_91 rfl (lv_at hl 1 rfl) ?_
          refine lv_iconst (v := 4) hx hb dX9_comeBack_92 (by decide) ?_
          refine lv_iload hx hb dX9_comeBack_93 (lv_at hl 0 rfl) ?_
          obtain ⟨now_1, hc, hf⟩ := ob1_some hf
          refine g_VV (As := [.int 4, .int (now_12 ((84 + y3_12) : Int32).toNatClampNeg)]) (rest := []) (ws' := (w_X9_comeBack kc a0 a1 a2 a3 a4 a5 a6 a7 a8 a9 a10 a11 a12 a13 a14 a15 a16 a17 a18 a19 a20 a21 a22 a23 a24 a25 a26 a27 a28 thrown loftSize startWind seed draftLoft draftStart draftSeed length textSize start next_ token value error errorAt number undos now_1 letters)) ⟨hx, hb, hml, hown, hts⟩ hN hK hP hD hS hA (c_X9_notes l D kc N a0 a1 a2 a3 a4 a5 a6 a7 a8 a9 a10 a11 a12 a13 a14 a15 a16 a17 a18 a19 a20 a21 a22 a23 a24 a25 a26 a27 a28 thrown loftSize startWind seed draftLoft draftStart draftSeed length textSize start next_ token value error errorAt number undos (upd now_12 (3 : Int32).toNatClampNeg ((now_12 (3 : Int32).toNatClampNeg) + 1)) 4 (now_12 ((84 + y3_12) : Int32).toNatClampNeg) now_1 hc) (cwV 2 hts gX9_comeBack_X9_notes rfl rfl rfl (by decide +kernel) ⟨Nat.le_of_ble_eq_true rfl, Nat.le_of_ble_eq_true rfl⟩) [0, 1] [2] [1, 2, 0] (by exact ⟨rfl, rfl, by decide, rfl⟩) 0 9 rfl rfl rfl rfl hl.1 rfl (Nat.le_of_ble_eq_true rfl) dX9_comeBack_95 ⟨Nat.le_refl _, Nat.le_refl _⟩ (fun H locs hP hD hS => ?_)
          refine lv_aload_n hx hb dX9_comeBack_98 rfl (lv_at hl 1 rfl) ?_
          refine lv_iload hx hb dX9_comeBack_99 (lv_at hl 0 rfl) ?_
          obtain ⟨now_2, hc, hf⟩ := ob1_some hf
          refine g_VV (As := [.int (now_12 ((84 + y3_12) : Int32).toNatClampNeg)]) (rest := []) (ws' := (w_X9_comeBack kc a0 a1 a2 a3 a4 a5 a6 a7 a8 a9 a10 a11 a12 a13 a14 a15 a16 a17 a18 a19 a20 a21 a22 a23 a24 a25 a26 a27 a28 thrown loftSize startWind seed draftLoft draftStart draftSeed length textSize start next_ token value error errorAt number undos now_2 letters)) ⟨hx, hb, hml, hown, hts⟩ hN hK hP hD hS hA (c_X9_answers l D kc N a0 a1 a2 a3 a4 a5 a6 a7 a8 a9 a10 a11 a12 a13 a14 a15 a16 a17 a18 a19 a20 a21 a22 a23 a24 a25 a26 a27 a28 thrown loftSize startWind seed draftLoft draftStart draftSeed length textSize start next_ token value error errorAt number undos letters now_1 (now_12 ((84 + y3_12) : Int32).toNatClampNeg) now_2 hc) (cwV 1 hts gX9_comeBack_X9_answers rfl rfl rfl (by decide +kernel) ⟨Nat.le_of_ble_eq_true rfl, Nat.le_of_ble_eq_true rfl⟩) [0, 2, 1] [] [0, 2, 1] (by exact ⟨rfl, rfl, by decide, rfl⟩) 0 9 rfl rfl rfl rfl hl.1 rfl (Nat.le_of_ble_eq_true rfl) dX9_comeBack_101 ⟨Nat.le_refl _, Nat.le_refl _⟩ (fun H locs hP hD hS => ?_)
          refine lv_iinc (v := (y3_12 + 1)) (lv' := [(3, .int (y3_12 + 1)), (4, .int (now_12 ((84 + y3_12) : Int32).toNatClampNeg)), (0, .ref a0), (1, .int z1_12), (2, .int y2_12)]) hx hb dX9_comeBack_104 hl (k := 4) rfl (by rfl) (by decide) rfl (fun ls hl => ?_)
          refine lv_goto (tgt := 12) hx hb dX9_comeBack_107 (by decide) ?_
          exact ih _ _ _ _ _ _ hf hk _ _ _ hP hD hS (lv_sub hl [2, 3, 4, 0] rfl)
        · have hf := o_f hc hf
          refine lv_aload_n hx hb dX9_comeBack_46 rfl (lv_at hl 1 rfl) ?_
          refine va_get (D := D) (ci := 9) (v := .ref a1) (C := RX9) (T := TX9) (N := 45) hx hb hts in_X9 hown hK hP 0 rfl rfl 1 (by decide) lk_13 (fun _ h9 => h9) rfl dX9_comeBack_47 ?_
          refine lv_bipush (v := 84) hx hb dX9_comeBack_50 (by decide) ?_
          refine lv_iload_n hx hb dX9_comeBack_52 rfl (lv_at hl 3 rfl) ?_
          refine lv_iadd hx hb dX9_comeBack_53 ?_
          refine lv_iload hx hb dX9_comeBack_54 (lv_at hl 0 rfl) ?_
          obtain ⟨hi, hf⟩ := gIx_some hf
          refine va_iast hx hb hK hP hD hS 1 1 rfl rfl hi dX9_comeBack_56 (fun H locs hP hD hS => ?_)
          have hP : va_P D vwCl (w_X9_comeBack kc a0 a1 a2 a3 a4 a5 a6 a7 a8 a9 a10 a11 a12 a13 a14 a15 a16 a17 a18 a19 a20 a21 a22 a23 a24 a25 a26 a27 a28 thrown loftSize startWind seed draftLoft draftStart draftSeed length textSize start next_ token value error errorAt number undos (upd now_12 ((84 + y2_12) : Int32).toNatClampNeg (now_12 ((84 + y3_12) : Int32).toNatClampNeg)) letters) H := hP
          have hD : va_D A (w_X9_comeBack kc a0 a1 a2 a3 a4 a5 a6 a7 a8 a9 a10 a11 a12 a13 a14 a15 a16 a17 a18 a19 a20 a21 a22 a23 a24 a25 a26 a27 a28 thrown loftSize startWind seed draftLoft draftStart draftSeed length textSize start next_ token value error errorAt number undos (upd now_12 ((84 + y2_12) : Int32).toNatClampNeg (now_12 ((84 + y3_12) : Int32).toNatClampNeg)) letters) := hD
          refine lv_aload_n hx hb dX9_comeBack_57 rfl (lv_at hl 1 rfl) ?_
          refine va_get (D := D) (ci := 9) (v := .ref a1) (C := RX9) (T := TX9) (N := 45) hx hb hts in_X9 hown hK hP 0 rfl rfl 1 (by decide) lk_13 (fun _ h9 => h9) rfl dX9_comeBack_58 ?_
          refine lv_bipush (v := 124) hx hb dX9_comeBack_61 (by decide) ?_
          refine lv_iload_n hx hb dX9_comeBack_63 rfl (lv_at hl 3 rfl) ?_
          refine lv_iadd hx hb dX9_comeBack_64 ?_
          refine lv_aload_n hx hb dX9_comeBack_65 rfl (lv_at hl 1 rfl) ?_
          refine va_get (D := D) (ci := 9) (v := .ref a1) (C := RX9) (T := TX9) (N := 45) hx hb hts in_X9 hown hK hP 0 rfl rfl 1 (by decide) lk_13 (fun _ h9 => h9) rfl dX9_comeBack_66 ?_
          refine lv_bipush (v := 124) hx hb dX9_comeBack_69 (by decide) ?_
          refine lv_iload_n hx hb dX9_comeBack_71 rfl (lv_at hl 4 rfl) ?_
          refine lv_iadd hx hb dX9_comeBack_72 ?_
          obtain ⟨hi, hf⟩ := gIx_some hf
          refine va_iald hx hb hK hP 1 1 rfl rfl hi dX9_comeBack_73 ?_
          obtain ⟨hi, hf⟩ := gIx_some hf
          refine va_iast hx hb hK hP hD hS 1 1 rfl rfl hi dX9_comeBack_74 (fun H locs hP hD hS => ?_)
          have hP : va_P D vwCl (w_X9_comeBack kc a0 a1 a2 a3 a4 a5 a6 a7 a8 a9 a10 a11 a12 a13 a14 a15 a16 a17 a18 a19 a20 a21 a22 a23 a24 a25 a26 a27 a28 thrown loftSize startWind seed draftLoft draftStart draftSeed length textSize start next_ token value error errorAt number undos (upd (upd now_12 ((84 + y2_12) : Int32).toNatClampNeg (now_12 ((84 + y3_12) : Int32).toNatClampNeg)) ((124 + y2_12) : Int32).toNatClampNeg ((upd now_12 ((84 + y2_12) : Int32).toNatClampNeg (now_12 ((84 + y3_12) : Int32).toNatClampNeg)) ((124 + y3_12) : Int32).toNatClampNeg)) letters) H := hP
          have hD : va_D A (w_X9_comeBack kc a0 a1 a2 a3 a4 a5 a6 a7 a8 a9 a10 a11 a12 a13 a14 a15 a16 a17 a18 a19 a20 a21 a22 a23 a24 a25 a26 a27 a28 thrown loftSize startWind seed draftLoft draftStart draftSeed length textSize start next_ token value error errorAt number undos (upd (upd now_12 ((84 + y2_12) : Int32).toNatClampNeg (now_12 ((84 + y3_12) : Int32).toNatClampNeg)) ((124 + y2_12) : Int32).toNatClampNeg ((upd now_12 ((84 + y2_12) : Int32).toNatClampNeg (now_12 ((84 + y3_12) : Int32).toNatClampNeg)) ((124 + y3_12) : Int32).toNatClampNeg)) letters) := hD
          refine lv_iinc (v := (y2_12 + 1)) (lv' := [(2, .int (y2_12 + 1)), (4, .int (now_12 ((84 + y3_12) : Int32).toNatClampNeg)), (0, .ref a0), (1, .int z1_12), (3, .int y3_12)]) hx hb dX9_comeBack_75 hl (k := 3) rfl (by rfl) (by decide) rfl (fun ls hl => ?_)
          refine lv_goto (tgt := 104) hx hb dX9_comeBack_78 (by decide) ?_
          refine lv_iinc (v := (y3_12 + 1)) (lv' := [(3, .int (y3_12 + 1)), (2, .int (y2_12 + 1)), (4, .int (now_12 ((84 + y3_12) : Int32).toNatClampNeg)), (0, .ref a0), (1, .int z1_12)]) hx hb dX9_comeBack_104 hl (k := 4) rfl (by rfl) (by decide) rfl (fun ls hl => ?_)
          refine lv_goto (tgt := 12) hx hb dX9_comeBack_107 (by decide) ?_
          exact ih _ _ _ _ _ _ hf hk _ _ _ hP hD hS (lv_sub hl [3, 4, 1, 0] rfl)
  obtain ⟨y3_12o, y2_12o, now_12o, hc, hf⟩ := ob3_some hf
  refine L12 (now (83 : Int32).toNatClampNeg) N _ _ _ _ _ _ hc (fun H locs ls hP hD hS hl => ?_) _ _ _ hP hD hS (lv_sub hl [3, 2, 1, 0] rfl)
  refine lv_iload_n hx hb dX9_comeBack_110 rfl (lv_at hl 2 rfl) ?_
  refine lv_istore_n (lv' := [(3, .int y2_12o), (0, .ref a0), (1, .int (now (83 : Int32).toNatClampNeg)), (2, .int y2_12o)]) hx hb dX9_comeBack_111 rfl hl (by decide) rfl (fun ls hl => ?_)
  have L112 : ∀ (z1_112 : Int32) (n : Nat) (y3_112 : Int32) (now_112 : Nat → Int32) (y3_112o : Int32) (now_112o : Nat → Int32), f_X9_comeBack_112 N z1_112 n y3_112 now_112 = some (y3_112o, now_112o) → (∀ (H : Heap) (locs : List Loc) (ls : Array Slot), va_P D vwCl (w_X9_comeBack kc a0 a1 a2 a3 a4 a5 a6 a7 a8 a9 a10 a11 a12 a13 a14 a15 a16 a17 a18 a19 a20 a21 a22 a23 a24 a25 a26 a27 a28 thrown loftSize startWind seed draftLoft draftStart draftSeed length textSize start next_ token value error errorAt number undos now_112o letters) H → va_D A (w_X9_comeBack kc a0 a1 a2 a3 a4 a5 a6 a7 a8 a9 a10 a11 a12 a13 a14 a15 a16 a17 a18 a19 a20 a21 a22 a23 a24 a25 a26 a27 a28 thrown loftSize startWind seed draftLoft draftStart draftSeed length textSize start next_ token value error errorAt number undos now_112o letters) → va_S A s.heap H locs → lv_has ls 5 [(0, .ref a0), (1, .int z1_112), (2, .int y2_12o), (3, .int y3_112o)] → W p l e ({ frames := 2, cells := 0, slots := 0, locals := 47 }) s m (([.ref a0] : List Value).toArray) below meth c H locs 0 0 Q (F0 m 143 ls [])) → ∀ (H : Heap) (locs : List Loc) (ls : Array Slot), va_P D vwCl (w_X9_comeBack kc a0 a1 a2 a3 a4 a5 a6 a7 a8 a9 a10 a11 a12 a13 a14 a15 a16 a17 a18 a19 a20 a21 a22 a23 a24 a25 a26 a27 a28 thrown loftSize startWind seed draftLoft draftStart draftSeed length textSize start next_ token value error errorAt number undos now_112 letters) H → va_D A (w_X9_comeBack kc a0 a1 a2 a3 a4 a5 a6 a7 a8 a9 a10 a11 a12 a13 a14 a15 a16 a17 a18 a19 a20 a21 a22 a23 a24 a25 a26 a27 a28 thrown loftSize startWind seed draftLoft draftStart draftSeed length textSize start next_ token value error errorAt number undos now_112 letters) → va_S A s.heap H locs → lv_has ls 5 [(0, .ref a0), (1, .int z1_112), (2, .int y2_12o), (3, .int y3_112)] → W p l e ({ frames := 2, cells := 0, slots := 0, locals := 47 }) s m (([.ref a0] : List Value).toArray) below meth c H locs 0 0 Q (F0 m 112 ls []) := by
    intro z1_112 n
    induction n with
    | zero => intro _ _ _ _ hf; rw [f_X9_comeBack_112.eq_1] at hf; cases hf
    | succ n ih =>
      intro y3_112 now_112 y3_112o now_112o hf hk H locs ls hP hD hS hl
      rw [f_X9_comeBack_112.eq_2] at hf
      refine lv_iload_n hx hb dX9_comeBack_112 rfl (lv_at hl 3 rfl) ?_
      refine lv_iload_n hx hb dX9_comeBack_113 rfl (lv_at hl 1 rfl) ?_
      refine lv_icmp_ge (tgt := 143) hx hb dX9_comeBack_114 (by decide) (fun hc => ?_) (fun hc => ?_)
      · have hf := o_t hc hf
        cases hf
        exact hk _ _ _ hP hD hS (lv_sub hl [0, 1, 2, 3] rfl)
      · have hf := o_f hc hf
        refine lv_aload_n hx hb dX9_comeBack_117 rfl (lv_at hl 0 rfl) ?_
        refine va_get (D := D) (ci := 9) (v := .ref a1) (C := RX9) (T := TX9) (N := 45) hx hb hts in_X9 hown hK hP 0 rfl rfl 1 (by decide) lk_13 (fun _ h9 => h9) rfl dX9_comeBack_118 ?_
        refine lv_bipush (v := 84) hx hb dX9_comeBack_121 (by decide) ?_
        refine lv_iload_n hx hb dX9_comeBack_123 rfl (lv_at hl 3 rfl) ?_
        refine lv_iadd hx hb dX9_comeBack_124 ?_
        refine lv_iconst (v := 0) hx hb dX9_comeBack_125 (by decide) ?_
        obtain ⟨hi, hf⟩ := gIx_some hf
        refine va_iast hx hb hK hP hD hS 1 1 rfl rfl hi dX9_comeBack_126 (fun H locs hP hD hS => ?_)
        have hP : va_P D vwCl (w_X9_comeBack kc a0 a1 a2 a3 a4 a5 a6 a7 a8 a9 a10 a11 a12 a13 a14 a15 a16 a17 a18 a19 a20 a21 a22 a23 a24 a25 a26 a27 a28 thrown loftSize startWind seed draftLoft draftStart draftSeed length textSize start next_ token value error errorAt number undos (upd now_112 ((84 + y3_112) : Int32).toNatClampNeg 0) letters) H := hP
        have hD : va_D A (w_X9_comeBack kc a0 a1 a2 a3 a4 a5 a6 a7 a8 a9 a10 a11 a12 a13 a14 a15 a16 a17 a18 a19 a20 a21 a22 a23 a24 a25 a26 a27 a28 thrown loftSize startWind seed draftLoft draftStart draftSeed length textSize start next_ token value error errorAt number undos (upd now_112 ((84 + y3_112) : Int32).toNatClampNeg 0) letters) := hD
        refine lv_aload_n hx hb dX9_comeBack_127 rfl (lv_at hl 0 rfl) ?_
        refine va_get (D := D) (ci := 9) (v := .ref a1) (C := RX9) (T := TX9) (N := 45) hx hb hts in_X9 hown hK hP 0 rfl rfl 1 (by decide) lk_13 (fun _ h9 => h9) rfl dX9_comeBack_128 ?_
        refine lv_bipush (v := 124) hx hb dX9_comeBack_131 (by decide) ?_
        refine lv_iload_n hx hb dX9_comeBack_133 rfl (lv_at hl 3 rfl) ?_
        refine lv_iadd hx hb dX9_comeBack_134 ?_
        refine lv_iconst (v := 0) hx hb dX9_comeBack_135 (by decide) ?_
        obtain ⟨hi, hf⟩ := gIx_some hf
        refine va_iast hx hb hK hP hD hS 1 1 rfl rfl hi dX9_comeBack_136 (fun H locs hP hD hS => ?_)
        have hP : va_P D vwCl (w_X9_comeBack kc a0 a1 a2 a3 a4 a5 a6 a7 a8 a9 a10 a11 a12 a13 a14 a15 a16 a17 a18 a19 a20 a21 a22 a23 a24 a25 a26 a27 a28 thrown loftSize startWind seed draftLoft draftStart draftSeed length textSize start next_ token value error errorAt number undos (upd (upd now_112 ((84 + y3_112) : Int32).toNatClampNeg 0) ((124 + y3_112) : Int32).toNatClampNeg 0) letters) H := hP
        have hD : va_D A (w_X9_comeBack kc a0 a1 a2 a3 a4 a5 a6 a7 a8 a9 a10 a11 a12 a13 a14 a15 a16 a17 a18 a19 a20 a21 a22 a23 a24 a25 a26 a27 a28 thrown loftSize startWind seed draftLoft draftStart draftSeed length textSize start next_ token value error errorAt number undos (upd (upd now_112 ((84 + y3_112) : Int32).toNatClampNeg 0) ((124 + y3_112) : Int32).toNatClampNeg 0) letters) := hD
        refine lv_iinc (v := (y3_112 + 1)) (lv' := [(3, .int (y3_112 + 1)), (0, .ref a0), (1, .int z1_112), (2, .int y2_12o)]) hx hb dX9_comeBack_137 hl (k := 3) rfl (by rfl) (by decide) rfl (fun ls hl => ?_)
        refine lv_goto (tgt := 112) hx hb dX9_comeBack_140 (by decide) ?_
        exact ih _ _ _ _ hf hk _ _ _ hP hD hS (lv_sub hl [1, 2, 3, 0] rfl)
  obtain ⟨y3_112o, now_112o, hc, hf⟩ := ob2_some hf
  refine L112 (now (83 : Int32).toNatClampNeg) N _ _ _ _ hc (fun H locs ls hP hD hS hl => ?_) _ _ _ hP hD hS (lv_sub hl [1, 2, 3, 0] rfl)
  refine lv_aload_n hx hb dX9_comeBack_143 rfl (lv_at hl 0 rfl) ?_
  refine va_get (D := D) (ci := 9) (v := .ref a1) (C := RX9) (T := TX9) (N := 45) hx hb hts in_X9 hown hK hP 0 rfl rfl 1 (by decide) lk_13 (fun _ h9 => h9) rfl dX9_comeBack_144 ?_
  refine lv_bipush (v := 83) hx hb dX9_comeBack_147 (by decide) ?_
  refine lv_iload_n hx hb dX9_comeBack_149 rfl (lv_at hl 2 rfl) ?_
  obtain ⟨hi, hf⟩ := gIx_some hf
  refine va_iast hx hb hK hP hD hS 1 1 rfl rfl hi dX9_comeBack_150 (fun H locs hP hD hS => ?_)
  have hP : va_P D vwCl (w_X9_comeBack kc a0 a1 a2 a3 a4 a5 a6 a7 a8 a9 a10 a11 a12 a13 a14 a15 a16 a17 a18 a19 a20 a21 a22 a23 a24 a25 a26 a27 a28 thrown loftSize startWind seed draftLoft draftStart draftSeed length textSize start next_ token value error errorAt number undos (upd now_112o (83 : Int32).toNatClampNeg y2_12o) letters) H := hP
  have hD : va_D A (w_X9_comeBack kc a0 a1 a2 a3 a4 a5 a6 a7 a8 a9 a10 a11 a12 a13 a14 a15 a16 a17 a18 a19 a20 a21 a22 a23 a24 a25 a26 a27 a28 thrown loftSize startWind seed draftLoft draftStart draftSeed length textSize start next_ token value error errorAt number undos (upd now_112o (83 : Int32).toNatClampNeg y2_12o) letters) := hD
  cases hf
  exact kR _ _ _ _ hP hD hS dX9_comeBack_151
abbrev w_X9_nextDay (kc : Nat → ClassId) (a0 a1 a2 a3 a4 a5 a6 a7 a8 a9 a10 a11 a12 a13 a14 a15 a16 a17 a18 a19 a20 a21 a22 a23 a24 a25 a26 a27 a28 : Nat) (thrown : Int32) (loftSize : Int32) (startWind : Int32) (seed : Int32) (draftLoft : Int32) (draftStart : Int32) (draftSeed : Int32) (length : Int32) (textSize : Int32) (start : Int32) (next_ : Int32) (token : Int32) (value : Int32) (error : Int32) (errorAt : Int32) (number : Int32) (undos : Int32) (undo : Nat → Int32) (now : Nat → Int32) (winds : Nat → Int32) (turns : Nat → Int32) (turnFrom : Nat → Int32) (turnWeight : Nat → Int32) (turnTo : Nat → Int32) (letters : Nat → Int32) : va_W := [(a0, .inr (9, [.int thrown, .ref a1, .ref a2, .ref a3, .ref a4, .ref a5, .ref a6, .ref a7, .ref a8, .ref a9, .ref a10, .ref a11, .ref a12, .ref a13, .ref a14, .ref a15, .ref a16, .ref a17, .ref a18, .ref a19, .int loftSize, .int startWind, .int seed, .int draftLoft, .int draftStart, .int draftSeed, .ref a20, .int length, .int textSize, .int start, .int next_, .int token, .int value, .int error, .int errorAt, .int number, .ref a21, .ref a22, .ref a23, .ref a24, .ref a25, .int undos, .ref a26, .ref a27, .ref a28])), (a26, .inl (kc 1, 2556, .inl undo)), (a1, .inl (kc 1, 213, .inl now)), (a6, .inl (kc 1, 2, .inl winds)), (a10, .inl (kc 1, 2, .inl turns)), (a11, .inl (kc 1, 60, .inl turnFrom)), (a13, .inl (kc 1, 60, .inl turnWeight)), (a12, .inl (kc 1, 60, .inl turnTo)), (a17, .inl (kc 1, 2, .inl letters))]
set_option maxHeartbeats 4000000 in
set_option maxRecDepth 100000 in
theorem c_X9_nextDay (l : Launch) (D : va_G) (kc : Nat → ClassId) (N : Nat) (a0 a1 a2 a3 a4 a5 a6 a7 a8 a9 a10 a11 a12 a13 a14 a15 a16 a17 a18 a19 a20 a21 a22 a23 a24 a25 a26 a27 a28 : Nat) (thrown : Int32) (loftSize : Int32) (startWind : Int32) (seed : Int32) (draftLoft : Int32) (draftStart : Int32) (draftSeed : Int32) (length : Int32) (textSize : Int32) (start : Int32) (next_ : Int32) (token : Int32) (value : Int32) (error : Int32) (errorAt : Int32) (number : Int32) (undos : Int32) (undo : Nat → Int32) (now : Nat → Int32) (winds : Nat → Int32) (turns : Nat → Int32) (turnFrom : Nat → Int32) (turnWeight : Nat → Int32) (turnTo : Nat → Int32) (letters : Nat → Int32) (r_ : Int32) (thrown' : Int32) (undos' : Int32) (undo' : Nat → Int32) (now' : Nat → Int32) (hf : f_X9_nextDay N undos undo now winds turns turnFrom turnWeight turnTo letters = some (r_, thrown', undos', undo', now')) : MI l yX9_nextDay wsX9_nextDay ({ frames := 3, cells := 0, slots := 0, locals := 71 }) D kc [.ref a0] (w_X9_nextDay kc a0 a1 a2 a3 a4 a5 a6 a7 a8 a9 a10 a11 a12 a13 a14 a15 a16 a17 a18 a19 a20 a21 a22 a23 a24 a25 a26 a27 a28 thrown loftSize startWind seed draftLoft draftStart draftSeed length textSize start next_ token value error errorAt number undos undo now winds turns turnFrom turnWeight turnTo letters) (w_X9_nextDay kc a0 a1 a2 a3 a4 a5 a6 a7 a8 a9 a10 a11 a12 a13 a14 a15 a16 a17 a18 a19 a20 a21 a22 a23 a24 a25 a26 a27 a28 thrown' loftSize startWind seed draftLoft draftStart draftSeed length textSize start next_ token value error errorAt number undos' undo' now' winds turns turnFrom turnWeight turnTo letters) r_ := by
  refine gM_I (cc := cX9_nextDay) (maxL := 5) (by decide) rfl (Nat.le_of_ble_eq_true rfl) ?_
  intro p e s m below meth c A ls Q hx hb hml hown hts hN hK hP hD hA hl kR
  have hS : va_S A s.heap s.heap [] := va_S.rf
  have hl : lv_has ls 5 [(0, .ref a0)] := hl
  have in_X9 : ∀ w ∈ u_ws RX9 TX9 45, w ∈ wsX9_nextDay := by decide +kernel
  have lk_1 := hts (.fieldLink RX9 1 "BalloonMailModel" "thrown" "I") (by decide +kernel)
  have lk_13 := hts (.fieldLink RX9 13 "BalloonMailModel" "now" "[I") (by decide +kernel)
  have lk_29 := hts (.fieldLink RX9 29 "BalloonMailModel" "winds" "[I") (by decide +kernel)
  have lk_41 := hts (.fieldLink RX9 41 "BalloonMailModel" "turns" "[I") (by decide +kernel)
  have lk_44 := hts (.fieldLink RX9 44 "BalloonMailModel" "turnFrom" "[I") (by decide +kernel)
  have lk_50 := hts (.fieldLink RX9 50 "BalloonMailModel" "turnWeight" "[I") (by decide +kernel)
  have lk_47 := hts (.fieldLink RX9 47 "BalloonMailModel" "turnTo" "[I") (by decide +kernel)
  have J110 : ∀ (y1_110 : Int32) (y3_110 : Int32) (thrown_110 : Int32) (undos_110 : Int32) (undo_110 : Nat → Int32) (now_110 : Nat → Int32), f_X9_nextDay_j110 N letters y1_110 y3_110 thrown_110 undos_110 undo_110 now_110 = some (r_, thrown', undos', undo', now') → ∀ (H : Heap) (locs : List Loc) (ls : Array Slot), va_P D vwCl (w_X9_nextDay kc a0 a1 a2 a3 a4 a5 a6 a7 a8 a9 a10 a11 a12 a13 a14 a15 a16 a17 a18 a19 a20 a21 a22 a23 a24 a25 a26 a27 a28 thrown_110 loftSize startWind seed draftLoft draftStart draftSeed length textSize start next_ token value error errorAt number undos_110 undo_110 now_110 winds turns turnFrom turnWeight turnTo letters) H → va_D A (w_X9_nextDay kc a0 a1 a2 a3 a4 a5 a6 a7 a8 a9 a10 a11 a12 a13 a14 a15 a16 a17 a18 a19 a20 a21 a22 a23 a24 a25 a26 a27 a28 thrown_110 loftSize startWind seed draftLoft draftStart draftSeed length textSize start next_ token value error errorAt number undos_110 undo_110 now_110 winds turns turnFrom turnWeight turnTo letters) → va_S A s.heap H locs → lv_has ls 5 [(0, .ref a0), (1, .int y1_110), (3, .int y3_110)] → W p l e ({ frames := 3, cells := 0, slots := 0, locals := 71 }) s m (([.ref a0] : List Value).toArray) below meth c H locs 0 0 Q (F0 m 110 ls []) := by
    clear hf
    intro y1_110 y3_110 thrown_110 undos_110 undo_110 now_110 hf H locs ls hP hD hS hl
    unfold f_X9_nextDay_j110 at hf
    refine lv_aload_n hx hb dX9_nextDay_110 rfl (lv_at hl 0 rfl) ?_
    refine va_get (D := D) (ci := 9) (v := .ref a1) (C := RX9) (T := TX9) (N := 45) hx hb hts in_X9 hown hK hP 0 rfl rfl 1 (by decide) lk_13 (fun _ h9 => h9) rfl dX9_nextDay_111 ?_
    refine lv_iconst (v := 1) hx hb dX9_nextDay_114 (by decide) ?_
    refine lv_iload_n hx hb dX9_nextDay_115 rfl (lv_at hl 2 rfl) ?_
    obtain ⟨hi, hf⟩ := gIx_some hf
    refine va_iast hx hb hK hP hD hS 2 1 rfl rfl hi dX9_nextDay_116 (fun H locs hP hD hS => ?_)
    have hP : va_P D vwCl (w_X9_nextDay kc a0 a1 a2 a3 a4 a5 a6 a7 a8 a9 a10 a11 a12 a13 a14 a15 a16 a17 a18 a19 a20 a21 a22 a23 a24 a25 a26 a27 a28 thrown_110 loftSize startWind seed draftLoft draftStart draftSeed length textSize start next_ token value error errorAt number undos_110 undo_110 (upd now_110 (1 : Int32).toNatClampNeg y3_110) winds turns turnFrom turnWeight turnTo letters) H := hP
    have hD : va_D A (w_X9_nextDay kc a0 a1 a2 a3 a4 a5 a6 a7 a8 a9 a10 a11 a12 a13 a14 a15 a16 a17 a18 a19 a20 a21 a22 a23 a24 a25 a26 a27 a28 thrown_110 loftSize startWind seed draftLoft draftStart draftSeed length textSize start next_ token value error errorAt number undos_110 undo_110 (upd now_110 (1 : Int32).toNatClampNeg y3_110) winds turns turnFrom turnWeight turnTo letters) := hD
    refine lv_iload_n hx hb dX9_nextDay_117 rfl (lv_at hl 2 rfl) ?_
    refine lv_iload_n hx hb dX9_nextDay_118 rfl (lv_at hl 1 rfl) ?_
    refine lv_icmp_eq (tgt := 128) hx hb dX9_nextDay_119 (by decide) (fun hc => ?_) (fun hc => ?_)
    · have hf := o_t hc hf
      refine lv_aload_n hx hb dX9_nextDay_128 rfl (lv_at hl 0 rfl) ?_
      obtain ⟨now_6, hc, hf⟩ := ob1_some hf
      refine g_VV (As := []) (rest := []) (ws' := (w_X9_nextDay kc a0 a1 a2 a3 a4 a5 a6 a7 a8 a9 a10 a11 a12 a13 a14 a15 a16 a17 a18 a19 a20 a21 a22 a23 a24 a25 a26 a27 a28 thrown_110 loftSize startWind seed draftLoft draftStart draftSeed length textSize start next_ token value error errorAt number undos_110 undo_110 now_6 winds turns turnFrom turnWeight turnTo letters)) ⟨hx, hb, hml, hown, hts⟩ hN hK hP hD hS hA (c_X9_comeBack l D kc N a0 a1 a2 a3 a4 a5 a6 a7 a8 a9 a10 a11 a12 a13 a14 a15 a16 a17 a18 a19 a20 a21 a22 a23 a24 a25 a26 a27 a28 thrown_110 loftSize startWind seed draftLoft draftStart draftSeed length textSize start next_ token value error errorAt number undos_110 (upd now_110 (1 : Int32).toNatClampNeg y3_110) letters now_6 hc) (cwV 0 hts gX9_nextDay_X9_comeBack rfl rfl rfl (by decide +kernel) ⟨Nat.le_of_ble_eq_true rfl, Nat.le_of_ble_eq_true rfl⟩) [0, 2, 8] [1, 3, 4, 5, 6, 7] [6, 0, 7, 1, 2, 3, 4, 5, 8] (by exact ⟨rfl, rfl, by decide, rfl⟩) 0 9 rfl rfl rfl rfl hl.1 rfl (Nat.le_of_ble_eq_true rfl) dX9_nextDay_129 ⟨Nat.le_refl _, Nat.le_refl _⟩ (fun H locs hP hD hS => ?_)
      refine lv_aload_n hx hb dX9_nextDay_132 rfl (lv_at hl 0 rfl) ?_
      refine va_get (D := D) (ci := 9) (v := .ref a1) (C := RX9) (T := TX9) (N := 45) hx hb hts in_X9 hown hK hP 0 rfl rfl 1 (by decide) lk_13 (fun _ h9 => h9) rfl dX9_nextDay_133 ?_
      refine lv_iconst (v := 1) hx hb dX9_nextDay_136 (by decide) ?_
      obtain ⟨hi, hf⟩ := gIx_some hf
      refine va_iald hx hb hK hP 2 1 rfl rfl hi dX9_nextDay_137 ?_
      cases hf
      exact kR _ _ _ _ hP hD hS dX9_nextDay_138
    · have hf := o_f hc hf
      refine lv_aload_n hx hb dX9_nextDay_122 rfl (lv_at hl 0 rfl) ?_
      refine lv_iconst (v := 5) hx hb dX9_nextDay_123 (by decide) ?_
      refine lv_iload_n hx hb dX9_nextDay_124 rfl (lv_at hl 2 rfl) ?_
      obtain ⟨now_7, hc, hf⟩ := ob1_some hf
      refine g_VV (As := [.int 5, .int y3_110]) (rest := []) (ws' := (w_X9_nextDay kc a0 a1 a2 a3 a4 a5 a6 a7 a8 a9 a10 a11 a12 a13 a14 a15 a16 a17 a18 a19 a20 a21 a22 a23 a24 a25 a26 a27 a28 thrown_110 loftSize startWind seed draftLoft draftStart draftSeed length textSize start next_ token value error errorAt number undos_110 undo_110 now_7 winds turns turnFrom turnWeight turnTo letters)) ⟨hx, hb, hml, hown, hts⟩ hN hK hP hD hS hA (c_X9_notes l D kc N a0 a1 a2 a3 a4 a5 a6 a7 a8 a9 a10 a11 a12 a13 a14 a15 a16 a17 a18 a19 a20 a21 a22 a23 a24 a25 a26 a27 a28 thrown_110 loftSize startWind seed draftLoft draftStart draftSeed length textSize start next_ token value error errorAt number undos_110 (upd now_110 (1 : Int32).toNatClampNeg y3_110) 5 y3_110 now_7 hc) (cwV 2 hts gX9_nextDay_X9_notes rfl rfl rfl (by decide +kernel) ⟨Nat.le_of_ble_eq_true rfl, Nat.le_of_ble_eq_true rfl⟩) [0, 2] [1, 3, 4, 5, 6, 7, 8] [7, 0, 8, 1, 2, 3, 4, 5, 6] (by exact ⟨rfl, rfl, by decide, rfl⟩) 0 9 rfl rfl rfl rfl hl.1 rfl (Nat.le_of_ble_eq_true rfl) dX9_nextDay_125 ⟨Nat.le_refl _, Nat.le_refl _⟩ (fun H locs hP hD hS => ?_)
      refine lv_aload_n hx hb dX9_nextDay_128 rfl (lv_at hl 0 rfl) ?_
      obtain ⟨now_8, hc, hf⟩ := ob1_some hf
      refine g_VV (As := []) (rest := []) (ws' := (w_X9_nextDay kc a0 a1 a2 a3 a4 a5 a6 a7 a8 a9 a10 a11 a12 a13 a14 a15 a16 a17 a18 a19 a20 a21 a22 a23 a24 a25 a26 a27 a28 thrown_110 loftSize startWind seed draftLoft draftStart draftSeed length textSize start next_ token value error errorAt number undos_110 undo_110 now_8 winds turns turnFrom turnWeight turnTo letters)) ⟨hx, hb, hml, hown, hts⟩ hN hK hP hD hS hA (c_X9_comeBack l D kc N a0 a1 a2 a3 a4 a5 a6 a7 a8 a9 a10 a11 a12 a13 a14 a15 a16 a17 a18 a19 a20 a21 a22 a23 a24 a25 a26 a27 a28 thrown_110 loftSize startWind seed draftLoft draftStart draftSeed length textSize start next_ token value error errorAt number undos_110 now_7 letters now_8 hc) (cwV 0 hts gX9_nextDay_X9_comeBack rfl rfl rfl (by decide +kernel) ⟨Nat.le_of_ble_eq_true rfl, Nat.le_of_ble_eq_true rfl⟩) [0, 2, 8] [1, 3, 4, 5, 6, 7] [6, 0, 7, 1, 2, 3, 4, 5, 8] (by exact ⟨rfl, rfl, by decide, rfl⟩) 0 9 rfl rfl rfl rfl hl.1 rfl (Nat.le_of_ble_eq_true rfl) dX9_nextDay_129 ⟨Nat.le_refl _, Nat.le_refl _⟩ (fun H locs hP hD hS => ?_)
      refine lv_aload_n hx hb dX9_nextDay_132 rfl (lv_at hl 0 rfl) ?_
      refine va_get (D := D) (ci := 9) (v := .ref a1) (C := RX9) (T := TX9) (N := 45) hx hb hts in_X9 hown hK hP 0 rfl rfl 1 (by decide) lk_13 (fun _ h9 => h9) rfl dX9_nextDay_133 ?_
      refine lv_iconst (v := 1) hx hb dX9_nextDay_136 (by decide) ?_
      obtain ⟨hi, hf⟩ := gIx_some hf
      refine va_iald hx hb hK hP 2 1 rfl rfl hi dX9_nextDay_137 ?_
      cases hf
      exact kR _ _ _ _ hP hD hS dX9_nextDay_138
  unfold f_X9_nextDay at hf
  refine lv_aload_n hx hb dX9_nextDay_0 rfl (lv_at hl 0 rfl) ?_
  refine lv_iconst (v := 0) hx hb dX9_nextDay_1 (by decide) ?_
  refine va_put (D := D) (ci := 9) (v := .int 0) (ty := .int) (C := RX9) (T := TX9) (N := 45) hx hb hts in_X9 tyX9 tyX9_ok nmX9 hown hK hP hD hS 0 rfl rfl 0 (by decide) lk_1 (fun _ h9 => h9) rfl (by decide +kernel) rfl rfl (Nat.le_of_ble_eq_true rfl) dX9_nextDay_2 (fun H locs hP hD hS => ?_)
  have hP : va_P D vwCl (w_X9_nextDay kc a0 a1 a2 a3 a4 a5 a6 a7 a8 a9 a10 a11 a12 a13 a14 a15 a16 a17 a18 a19 a20 a21 a22 a23 a24 a25 a26 a27 a28 0 loftSize startWind seed draftLoft draftStart draftSeed length textSize start next_ token value error errorAt number undos undo now winds turns turnFrom turnWeight turnTo letters) H := hP
  have hD : va_D A (w_X9_nextDay kc a0 a1 a2 a3 a4 a5 a6 a7 a8 a9 a10 a11 a12 a13 a14 a15 a16 a17 a18 a19 a20 a21 a22 a23 a24 a25 a26 a27 a28 0 loftSize startWind seed draftLoft draftStart draftSeed length textSize start next_ token value error errorAt number undos undo now winds turns turnFrom turnWeight turnTo letters) := hD
  refine lv_aload_n hx hb dX9_nextDay_5 rfl (lv_at hl 0 rfl) ?_
  obtain ⟨undos_1, undo_2, hc, hf⟩ := ob2_some hf
  refine g_VV (As := []) (rest := []) (ws' := (w_X9_nextDay kc a0 a1 a2 a3 a4 a5 a6 a7 a8 a9 a10 a11 a12 a13 a14 a15 a16 a17 a18 a19 a20 a21 a22 a23 a24 a25 a26 a27 a28 0 loftSize startWind seed draftLoft draftStart draftSeed length textSize start next_ token value error errorAt number undos_1 undo_2 now winds turns turnFrom turnWeight turnTo letters)) ⟨hx, hb, hml, hown, hts⟩ hN hK hP hD hS hA (c_X9_keeps l D kc N a0 a1 a2 a3 a4 a5 a6 a7 a8 a9 a10 a11 a12 a13 a14 a15 a16 a17 a18 a19 a20 a21 a22 a23 a24 a25 a26 a27 a28 0 loftSize startWind seed draftLoft draftStart draftSeed length textSize start next_ token value error errorAt number undos undo now undos_1 undo_2 hc) (cwV 0 hts gX9_nextDay_X9_keeps rfl rfl rfl (by decide +kernel) ⟨Nat.le_of_ble_eq_true rfl, Nat.le_of_ble_eq_true rfl⟩) [0, 1, 2] [3, 4, 5, 6, 7, 8] [6, 7, 8, 0, 1, 2, 3, 4, 5] (by exact ⟨rfl, rfl, by decide, rfl⟩) 0 9 rfl rfl rfl rfl hl.1 rfl (Nat.le_of_ble_eq_true rfl) dX9_nextDay_6 ⟨Nat.le_refl _, Nat.le_refl _⟩ (fun H locs hP hD hS => ?_)
  refine lv_aload_n hx hb dX9_nextDay_9 rfl (lv_at hl 0 rfl) ?_
  refine va_get (D := D) (ci := 9) (v := .ref a1) (C := RX9) (T := TX9) (N := 45) hx hb hts in_X9 hown hK hP 0 rfl rfl 1 (by decide) lk_13 (fun _ h9 => h9) rfl dX9_nextDay_10 ?_
  refine lv_iconst (v := 1) hx hb dX9_nextDay_13 (by decide) ?_
  obtain ⟨hi, hf⟩ := gIx_some hf
  refine va_iald hx hb hK hP 2 1 rfl rfl hi dX9_nextDay_14 ?_
  refine lv_istore_n (lv' := [(1, .int (now (1 : Int32).toNatClampNeg)), (0, .ref a0)]) hx hb dX9_nextDay_15 rfl hl (by decide) rfl (fun ls hl => ?_)
  refine lv_aload_n hx hb dX9_nextDay_16 rfl (lv_at hl 1 rfl) ?_
  refine va_get (D := D) (ci := 9) (v := .ref a1) (C := RX9) (T := TX9) (N := 45) hx hb hts in_X9 hown hK hP 0 rfl rfl 1 (by decide) lk_13 (fun _ h9 => h9) rfl dX9_nextDay_17 ?_
  refine lv_iconst (v := 0) hx hb dX9_nextDay_20 (by decide) ?_
  refine lv_dup2_11 hx hb dX9_nextDay_21 rfl rfl ?_
  obtain ⟨hi, hf⟩ := gIx_some hf
  refine va_iald hx hb hK hP 2 1 rfl rfl hi dX9_nextDay_22 ?_
  refine lv_iconst (v := 1) hx hb dX9_nextDay_23 (by decide) ?_
  refine lv_iadd hx hb dX9_nextDay_24 ?_
  obtain ⟨hi, hf⟩ := gIx_some hf
  refine va_iast hx hb hK hP hD hS 2 1 rfl rfl hi dX9_nextDay_25 (fun H locs hP hD hS => ?_)
  have hP : va_P D vwCl (w_X9_nextDay kc a0 a1 a2 a3 a4 a5 a6 a7 a8 a9 a10 a11 a12 a13 a14 a15 a16 a17 a18 a19 a20 a21 a22 a23 a24 a25 a26 a27 a28 0 loftSize startWind seed draftLoft draftStart draftSeed length textSize start next_ token value error errorAt number undos_1 undo_2 (upd now (0 : Int32).toNatClampNeg ((now (0 : Int32).toNatClampNeg) + 1)) winds turns turnFrom turnWeight turnTo letters) H := hP
  have hD : va_D A (w_X9_nextDay kc a0 a1 a2 a3 a4 a5 a6 a7 a8 a9 a10 a11 a12 a13 a14 a15 a16 a17 a18 a19 a20 a21 a22 a23 a24 a25 a26 a27 a28 0 loftSize startWind seed draftLoft draftStart draftSeed length textSize start next_ token value error errorAt number undos_1 undo_2 (upd now (0 : Int32).toNatClampNeg ((now (0 : Int32).toNatClampNeg) + 1)) winds turns turnFrom turnWeight turnTo letters) := hD
  refine lv_aload_n hx hb dX9_nextDay_26 rfl (lv_at hl 1 rfl) ?_
  refine va_get (D := D) (ci := 9) (v := .ref a6) (C := RX9) (T := TX9) (N := 45) hx hb hts in_X9 hown hK hP 0 rfl rfl 6 (by decide) lk_29 (fun _ h9 => h9) rfl dX9_nextDay_27 ?_
  refine lv_iconst (v := 0) hx hb dX9_nextDay_30 (by decide) ?_
  obtain ⟨hi, hf⟩ := gIx_some hf
  refine va_iald hx hb hK hP 3 1 rfl rfl hi dX9_nextDay_31 ?_
  refine lv_if_le (tgt := 128) hx hb dX9_nextDay_32 (by decide) (fun hc => ?_) (fun hc => ?_)
  · have hf := o_t hc hf
    refine lv_aload_n hx hb dX9_nextDay_128 rfl (lv_at hl 1 rfl) ?_
    obtain ⟨now_3, hc, hf⟩ := ob1_some hf
    refine g_VV (As := []) (rest := []) (ws' := (w_X9_nextDay kc a0 a1 a2 a3 a4 a5 a6 a7 a8 a9 a10 a11 a12 a13 a14 a15 a16 a17 a18 a19 a20 a21 a22 a23 a24 a25 a26 a27 a28 0 loftSize startWind seed draftLoft draftStart draftSeed length textSize start next_ token value error errorAt number undos_1 undo_2 now_3 winds turns turnFrom turnWeight turnTo letters)) ⟨hx, hb, hml, hown, hts⟩ hN hK hP hD hS hA (c_X9_comeBack l D kc N a0 a1 a2 a3 a4 a5 a6 a7 a8 a9 a10 a11 a12 a13 a14 a15 a16 a17 a18 a19 a20 a21 a22 a23 a24 a25 a26 a27 a28 0 loftSize startWind seed draftLoft draftStart draftSeed length textSize start next_ token value error errorAt number undos_1 (upd now (0 : Int32).toNatClampNeg ((now (0 : Int32).toNatClampNeg) + 1)) letters now_3 hc) (cwV 0 hts gX9_nextDay_X9_comeBack rfl rfl rfl (by decide +kernel) ⟨Nat.le_of_ble_eq_true rfl, Nat.le_of_ble_eq_true rfl⟩) [0, 2, 8] [1, 3, 4, 5, 6, 7] [6, 0, 7, 1, 2, 3, 4, 5, 8] (by exact ⟨rfl, rfl, by decide, rfl⟩) 0 9 rfl rfl rfl rfl hl.1 rfl (Nat.le_of_ble_eq_true rfl) dX9_nextDay_129 ⟨Nat.le_refl _, Nat.le_refl _⟩ (fun H locs hP hD hS => ?_)
    refine lv_aload_n hx hb dX9_nextDay_132 rfl (lv_at hl 1 rfl) ?_
    refine va_get (D := D) (ci := 9) (v := .ref a1) (C := RX9) (T := TX9) (N := 45) hx hb hts in_X9 hown hK hP 0 rfl rfl 1 (by decide) lk_13 (fun _ h9 => h9) rfl dX9_nextDay_133 ?_
    refine lv_iconst (v := 1) hx hb dX9_nextDay_136 (by decide) ?_
    obtain ⟨hi, hf⟩ := gIx_some hf
    refine va_iald hx hb hK hP 2 1 rfl rfl hi dX9_nextDay_137 ?_
    cases hf
    exact kR _ _ _ _ hP hD hS dX9_nextDay_138
  · have hf := o_f hc hf
    refine lv_aload_n hx hb dX9_nextDay_35 rfl (lv_at hl 1 rfl) ?_
    obtain ⟨r_4, now_5, hc, hf⟩ := ob2_some hf
    refine g_VI (As := []) (rest := []) (ws' := (w_X9_nextDay kc a0 a1 a2 a3 a4 a5 a6 a7 a8 a9 a10 a11 a12 a13 a14 a15 a16 a17 a18 a19 a20 a21 a22 a23 a24 a25 a26 a27 a28 0 loftSize startWind seed draftLoft draftStart draftSeed length textSize start next_ token value error errorAt number undos_1 undo_2 now_5 winds turns turnFrom turnWeight turnTo letters)) ⟨hx, hb, hml, hown, hts⟩ hN hK hP hD hS hA (c_X9_draw l D kc N a0 a1 a2 a3 a4 a5 a6 a7 a8 a9 a10 a11 a12 a13 a14 a15 a16 a17 a18 a19 a20 a21 a22 a23 a24 a25 a26 a27 a28 0 loftSize startWind seed draftLoft draftStart draftSeed length textSize start next_ token value error errorAt number undos_1 (upd now (0 : Int32).toNatClampNeg ((now (0 : Int32).toNatClampNeg) + 1)) r_4 now_5 hc) (cwV 0 hts gX9_nextDay_X9_draw rfl rfl rfl (by decide +kernel) ⟨Nat.le_of_ble_eq_true rfl, Nat.le_of_ble_eq_true rfl⟩) [0, 2] [1, 3, 4, 5, 6, 7, 8] [7, 0, 8, 1, 2, 3, 4, 5, 6] (by exact ⟨rfl, rfl, by decide, rfl⟩) 0 9 rfl rfl rfl rfl hl.1 rfl (Nat.le_of_ble_eq_true rfl) dX9_nextDay_36 ⟨Nat.le_refl _, Nat.le_refl _⟩ (fun H locs hP hD hS => ?_)
    refine lv_istore_n (lv' := [(2, .int r_4), (1, .int (now (1 : Int32).toNatClampNeg)), (0, .ref a0)]) hx hb dX9_nextDay_39 rfl hl (by decide) rfl (fun ls hl => ?_)
    refine lv_iload_n hx hb dX9_nextDay_40 rfl (lv_at hl 1 rfl) ?_
    refine lv_istore_n (lv' := [(3, .int (now (1 : Int32).toNatClampNeg)), (2, .int r_4), (1, .int (now (1 : Int32).toNatClampNeg)), (0, .ref a0)]) hx hb dX9_nextDay_41 rfl hl (by decide) rfl (fun ls hl => ?_)
    refine lv_iconst (v := 0) hx hb dX9_nextDay_42 (by decide) ?_
    refine lv_istore (lv' := [(4, .int 0), (3, .int (now (1 : Int32).toNatClampNeg)), (2, .int r_4), (1, .int (now (1 : Int32).toNatClampNeg)), (0, .ref a0)]) hx hb dX9_nextDay_43 hl (by decide) rfl (fun ls hl => ?_)
    have L45 : ∀ (z1_45 : Int32) (thrown_f45 : Int32) (n : Nat) (y4_45 : Int32) (y3_45 : Int32) (y2_45 : Int32) (y4_45o : Int32) (y3_45o : Int32) (y2_45o : Int32), f_X9_nextDay_45 N turns turnFrom turnWeight turnTo z1_45 n y4_45 y3_45 y2_45 = some (y4_45o, y3_45o, y2_45o) → (∀ (H : Heap) (locs : List Loc) (ls : Array Slot), va_P D vwCl (w_X9_nextDay kc a0 a1 a2 a3 a4 a5 a6 a7 a8 a9 a10 a11 a12 a13 a14 a15 a16 a17 a18 a19 a20 a21 a22 a23 a24 a25 a26 a27 a28 thrown_f45 loftSize startWind seed draftLoft draftStart draftSeed length textSize start next_ token value error errorAt number undos_1 undo_2 now_5 winds turns turnFrom turnWeight turnTo letters) H → va_D A (w_X9_nextDay kc a0 a1 a2 a3 a4 a5 a6 a7 a8 a9 a10 a11 a12 a13 a14 a15 a16 a17 a18 a19 a20 a21 a22 a23 a24 a25 a26 a27 a28 thrown_f45 loftSize startWind seed draftLoft draftStart draftSeed length textSize start next_ token value error errorAt number undos_1 undo_2 now_5 winds turns turnFrom turnWeight turnTo letters) → va_S A s.heap H locs → lv_has ls 5 [(0, .ref a0), (1, .int z1_45), (2, .int y2_45o), (3, .int y3_45o), (4, .int y4_45o)] → W p l e ({ frames := 3, cells := 0, slots := 0, locals := 71 }) s m (([.ref a0] : List Value).toArray) below meth c H locs 0 0 Q (F0 m 110 ls [])) → ∀ (H : Heap) (locs : List Loc) (ls : Array Slot), va_P D vwCl (w_X9_nextDay kc a0 a1 a2 a3 a4 a5 a6 a7 a8 a9 a10 a11 a12 a13 a14 a15 a16 a17 a18 a19 a20 a21 a22 a23 a24 a25 a26 a27 a28 thrown_f45 loftSize startWind seed draftLoft draftStart draftSeed length textSize start next_ token value error errorAt number undos_1 undo_2 now_5 winds turns turnFrom turnWeight turnTo letters) H → va_D A (w_X9_nextDay kc a0 a1 a2 a3 a4 a5 a6 a7 a8 a9 a10 a11 a12 a13 a14 a15 a16 a17 a18 a19 a20 a21 a22 a23 a24 a25 a26 a27 a28 thrown_f45 loftSize startWind seed draftLoft draftStart draftSeed length textSize start next_ token value error errorAt number undos_1 undo_2 now_5 winds turns turnFrom turnWeight turnTo letters) → va_S A s.heap H locs → lv_has ls 5 [(0, .ref a0), (1, .int z1_45), (2, .int y2_45), (3, .int y3_45), (4, .int y4_45)] → W p l e ({ frames := 3, cells := 0, slots := 0, locals := 71 }) s m (([.ref a0] : List Value).toArray) below meth c H locs 0 0 Q (F0 m 45 ls []) := by
      intro z1_45 thrown_f45 n
      induction n with
      | zero => intro _ _ _ _ _ _ hf; rw [f_X9_nextDay_45.eq_1] at hf; cases hf
      | succ n ih =>
        intro y4_45 y3_45 y2_45 y4_45o y3_45o y2_45o hf hk H locs ls hP hD hS hl
        rw [f_X9_nextDay_45.eq_2] at hf
        refine lv_iload hx hb dX9_nextDay_45 (lv_at hl 4 rfl) ?_
        refine lv_aload_n hx hb dX9_nextDay_47 rfl (lv_at hl 0 rfl) ?_
        refine va_get (D := D) (ci := 9) (v := .ref a10) (C := RX9) (T := TX9) (N := 45) hx hb hts in_X9 hown hK hP 0 rfl rfl 10 (by decide) lk_41 (fun _ h9 => h9) rfl dX9_nextDay_48 ?_
        refine lv_iconst (v := 0) hx hb dX9_nextDay_51 (by decide) ?_
        obtain ⟨hi, hf⟩ := gIx_some hf
        refine va_iald hx hb hK hP 4 1 rfl rfl hi dX9_nextDay_52 ?_
        refine lv_icmp_ge (tgt := 110) hx hb dX9_nextDay_53 (by decide) (fun hc => ?_) (fun hc => ?_)
        · have hf := o_t hc hf
          cases hf
          exact hk _ _ _ hP hD hS (lv_sub hl [0, 1, 2, 3, 4] rfl)
        · have hf := o_f hc hf
          refine lv_iload_n hx hb dX9_nextDay_56 rfl (lv_at hl 2 rfl) ?_
          refine lv_if_lt (tgt := 110) hx hb dX9_nextDay_57 (by decide) (fun hc => ?_) (fun hc => ?_)
          · have hf := o_t hc hf
            cases hf
            exact hk _ _ _ hP hD hS (lv_sub hl [0, 1, 2, 3, 4] rfl)
          · have hf := o_f hc hf
            refine lv_aload_n hx hb dX9_nextDay_60 rfl (lv_at hl 0 rfl) ?_
            refine va_get (D := D) (ci := 9) (v := .ref a11) (C := RX9) (T := TX9) (N := 45) hx hb hts in_X9 hown hK hP 0 rfl rfl 11 (by decide) lk_44 (fun _ h9 => h9) rfl dX9_nextDay_61 ?_
            refine lv_iload hx hb dX9_nextDay_64 (lv_at hl 4 rfl) ?_
            obtain ⟨hi, hf⟩ := gIx_some hf
            refine va_iald hx hb hK hP 5 1 rfl rfl hi dX9_nextDay_66 ?_
            refine lv_iload_n hx hb dX9_nextDay_67 rfl (lv_at hl 1 rfl) ?_
            refine lv_icmp_ne (tgt := 104) hx hb dX9_nextDay_68 (by decide) (fun hc => ?_) (fun hc => ?_)
            · have hf := o_f hc hf
              refine lv_iinc (v := (y4_45 + 1)) (lv' := [(4, .int (y4_45 + 1)), (0, .ref a0), (1, .int z1_45), (2, .int y2_45), (3, .int y3_45)]) hx hb dX9_nextDay_104 hl (k := 4) rfl (by rfl) (by decide) rfl (fun ls hl => ?_)
              refine lv_goto (tgt := 45) hx hb dX9_nextDay_107 (by decide) ?_
              exact ih _ _ _ _ _ _ hf hk _ _ _ hP hD hS (lv_sub hl [1, 2, 3, 4, 0] rfl)
            · have hf := o_t hc hf
              refine lv_iload_n hx hb dX9_nextDay_71 rfl (lv_at hl 2 rfl) ?_
              refine lv_aload_n hx hb dX9_nextDay_72 rfl (lv_at hl 0 rfl) ?_
              refine va_get (D := D) (ci := 9) (v := .ref a13) (C := RX9) (T := TX9) (N := 45) hx hb hts in_X9 hown hK hP 0 rfl rfl 13 (by decide) lk_50 (fun _ h9 => h9) rfl dX9_nextDay_73 ?_
              refine lv_iload hx hb dX9_nextDay_76 (lv_at hl 4 rfl) ?_
              obtain ⟨hi, hf⟩ := gIx_some hf
              refine va_iald hx hb hK hP 6 1 rfl rfl hi dX9_nextDay_78 ?_
              refine lv_icmp_ge (tgt := 92) hx hb dX9_nextDay_79 (by decide) (fun hc => ?_) (fun hc => ?_)
              · have hf := o_t hc hf
                refine lv_iload_n hx hb dX9_nextDay_92 rfl (lv_at hl 3 rfl) ?_
                refine lv_istore_n (lv' := [(3, .int y3_45), (0, .ref a0), (1, .int z1_45), (2, .int y2_45), (4, .int y4_45)]) hx hb dX9_nextDay_93 rfl hl (by decide) rfl (fun ls hl => ?_)
                refine lv_iload_n hx hb dX9_nextDay_94 rfl (lv_at hl 3 rfl) ?_
                refine lv_aload_n hx hb dX9_nextDay_95 rfl (lv_at hl 1 rfl) ?_
                refine va_get (D := D) (ci := 9) (v := .ref a13) (C := RX9) (T := TX9) (N := 45) hx hb hts in_X9 hown hK hP 0 rfl rfl 13 (by decide) lk_50 (fun _ h9 => h9) rfl dX9_nextDay_96 ?_
                refine lv_iload hx hb dX9_nextDay_99 (lv_at hl 4 rfl) ?_
                obtain ⟨hi, hf⟩ := gIx_some hf
                refine va_iald hx hb hK hP 6 1 rfl rfl hi dX9_nextDay_101 ?_
                refine lv_isub hx hb dX9_nextDay_102 ?_
                refine lv_istore_n (lv' := [(2, .int (y2_45 - (turnWeight (y4_45 : Int32).toNatClampNeg))), (3, .int y3_45), (0, .ref a0), (1, .int z1_45), (4, .int y4_45)]) hx hb dX9_nextDay_103 rfl hl (by decide) rfl (fun ls hl => ?_)
                refine lv_iinc (v := (y4_45 + 1)) (lv' := [(4, .int (y4_45 + 1)), (2, .int (y2_45 - (turnWeight (y4_45 : Int32).toNatClampNeg))), (3, .int y3_45), (0, .ref a0), (1, .int z1_45)]) hx hb dX9_nextDay_104 hl (k := 4) rfl (by rfl) (by decide) rfl (fun ls hl => ?_)
                refine lv_goto (tgt := 45) hx hb dX9_nextDay_107 (by decide) ?_
                exact ih _ _ _ _ _ _ hf hk _ _ _ hP hD hS (lv_sub hl [3, 4, 1, 2, 0] rfl)
              · have hf := o_f hc hf
                refine lv_aload_n hx hb dX9_nextDay_82 rfl (lv_at hl 0 rfl) ?_
                refine va_get (D := D) (ci := 9) (v := .ref a12) (C := RX9) (T := TX9) (N := 45) hx hb hts in_X9 hown hK hP 0 rfl rfl 12 (by decide) lk_47 (fun _ h9 => h9) rfl dX9_nextDay_83 ?_
                refine lv_iload hx hb dX9_nextDay_86 (lv_at hl 4 rfl) ?_
                obtain ⟨hi, hf⟩ := gIx_some hf
                refine va_iald hx hb hK hP 7 1 rfl rfl hi dX9_nextDay_88 ?_
                refine lv_goto (tgt := 93) hx hb dX9_nextDay_89 (by decide) ?_
                refine lv_istore_n (lv' := [(3, .int (turnTo (y4_45 : Int32).toNatClampNeg)), (0, .ref a0), (1, .int z1_45), (2, .int y2_45), (4, .int y4_45)]) hx hb dX9_nextDay_93 rfl hl (by decide) rfl (fun ls hl => ?_)
                refine lv_iload_n hx hb dX9_nextDay_94 rfl (lv_at hl 3 rfl) ?_
                refine lv_aload_n hx hb dX9_nextDay_95 rfl (lv_at hl 1 rfl) ?_
                refine va_get (D := D) (ci := 9) (v := .ref a13) (C := RX9) (T := TX9) (N := 45) hx hb hts in_X9 hown hK hP 0 rfl rfl 13 (by decide) lk_50 (fun _ h9 => h9) rfl dX9_nextDay_96 ?_
                refine lv_iload hx hb dX9_nextDay_99 (lv_at hl 4 rfl) ?_
                obtain ⟨hi, hf⟩ := gIx_some hf
                refine va_iald hx hb hK hP 6 1 rfl rfl hi dX9_nextDay_101 ?_
                refine lv_isub hx hb dX9_nextDay_102 ?_
                refine lv_istore_n (lv' := [(2, .int (y2_45 - (turnWeight (y4_45 : Int32).toNatClampNeg))), (3, .int (turnTo (y4_45 : Int32).toNatClampNeg)), (0, .ref a0), (1, .int z1_45), (4, .int y4_45)]) hx hb dX9_nextDay_103 rfl hl (by decide) rfl (fun ls hl => ?_)
                refine lv_iinc (v := (y4_45 + 1)) (lv' := [(4, .int (y4_45 + 1)), (2, .int (y2_45 - (turnWeight (y4_45 : Int32).toNatClampNeg))), (3, .int (turnTo (y4_45 : Int32).toNatClampNeg)), (0, .ref a0), (1, .int z1_45)]) hx hb dX9_nextDay_104 hl (k := 4) rfl (by rfl) (by decide) rfl (fun ls hl => ?_)
                refine lv_goto (tgt := 45) hx hb dX9_nextDay_107 (by decide) ?_
                exact ih _ _ _ _ _ _ hf hk _ _ _ hP hD hS (lv_sub hl [3, 4, 1, 2, 0] rfl)
    obtain ⟨y4_45o, y3_45o, y2_45o, hc, hf⟩ := ob3_some hf
    refine L45 (now (1 : Int32).toNatClampNeg) 0 N _ _ _ _ _ _ hc (fun H locs ls hP hD hS hl => ?_) _ _ _ hP hD hS (lv_sub hl [4, 3, 2, 1, 0] rfl)
    exact J110 _ _ _ _ _ _ hf _ _ _ hP hD hS (lv_sub hl [0, 1, 3] rfl)
