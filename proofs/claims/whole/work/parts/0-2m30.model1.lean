abbrev w_X9_thrown (kc : Nat → ClassId) (a0 a1 a2 a3 a4 a5 a6 a7 a8 a9 a10 a11 a12 a13 a14 a15 a16 a17 a18 a19 a20 a21 a22 a23 a24 a25 a26 a27 a28 : Nat) (thrown : Int32) (loftSize : Int32) (startWind : Int32) (seed : Int32) (draftLoft : Int32) (draftStart : Int32) (draftSeed : Int32) (length : Int32) (textSize : Int32) (start : Int32) (next_ : Int32) (token : Int32) (value : Int32) (error : Int32) (errorAt : Int32) (number : Int32) (undos : Int32) : va_W := [(a0, .inr (9, [.int thrown, .ref a1, .ref a2, .ref a3, .ref a4, .ref a5, .ref a6, .ref a7, .ref a8, .ref a9, .ref a10, .ref a11, .ref a12, .ref a13, .ref a14, .ref a15, .ref a16, .ref a17, .ref a18, .ref a19, .int loftSize, .int startWind, .int seed, .int draftLoft, .int draftStart, .int draftSeed, .ref a20, .int length, .int textSize, .int start, .int next_, .int token, .int value, .int error, .int errorAt, .int number, .ref a21, .ref a22, .ref a23, .ref a24, .ref a25, .int undos, .ref a26, .ref a27, .ref a28]))]
set_option maxHeartbeats 4000000 in
set_option maxRecDepth 100000 in
theorem c_X9_thrown (l : Launch) (D : va_G) (kc : Nat → ClassId) (N : Nat) (a0 a1 a2 a3 a4 a5 a6 a7 a8 a9 a10 a11 a12 a13 a14 a15 a16 a17 a18 a19 a20 a21 a22 a23 a24 a25 a26 a27 a28 : Nat) (thrown : Int32) (loftSize : Int32) (startWind : Int32) (seed : Int32) (draftLoft : Int32) (draftStart : Int32) (draftSeed : Int32) (length : Int32) (textSize : Int32) (start : Int32) (next_ : Int32) (token : Int32) (value : Int32) (error : Int32) (errorAt : Int32) (number : Int32) (undos : Int32) (r_ : Int32) (hf : f_X9_thrown N thrown = some r_) : MI l yX9_thrown wsX9_thrown ({ frames := 0, cells := 0, slots := 0, locals := 0 }) D kc [.ref a0] (w_X9_thrown kc a0 a1 a2 a3 a4 a5 a6 a7 a8 a9 a10 a11 a12 a13 a14 a15 a16 a17 a18 a19 a20 a21 a22 a23 a24 a25 a26 a27 a28 thrown loftSize startWind seed draftLoft draftStart draftSeed length textSize start next_ token value error errorAt number undos) (w_X9_thrown kc a0 a1 a2 a3 a4 a5 a6 a7 a8 a9 a10 a11 a12 a13 a14 a15 a16 a17 a18 a19 a20 a21 a22 a23 a24 a25 a26 a27 a28 thrown loftSize startWind seed draftLoft draftStart draftSeed length textSize start next_ token value error errorAt number undos) r_ := by
  refine gM_I (cc := cX9_thrown) (maxL := 1) (by decide) rfl (Nat.le_of_ble_eq_true rfl) ?_
  intro p e s m below meth c A ls Q hx hb hml hown hts hN hK hP hD hA hl kR
  have hS : va_S A s.heap s.heap [] := va_S.rf
  have hl : lv_has ls 1 [(0, .ref a0)] := hl
  have in_X9 : ∀ w ∈ u_ws RX9 TX9 45, w ∈ wsX9_thrown := by decide +kernel
  have lk_1 := hts (.fieldLink RX9 1 "BalloonMailModel" "thrown" "I") (by decide +kernel)
  unfold f_X9_thrown at hf
  refine lv_aload_n hx hb dX9_thrown_0 rfl (lv_at hl 0 rfl) ?_
  refine va_get (D := D) (ci := 9) (v := .int thrown) (C := RX9) (T := TX9) (N := 45) hx hb hts in_X9 hown hK hP 0 rfl rfl 0 (by decide) lk_1 (fun _ h9 => h9) rfl dX9_thrown_1 ?_
  cases hf
  exact kR _ _ _ _ hP hD hS dX9_thrown_4
abbrev w_X9_within (kc : Nat → ClassId) : va_W := []
set_option maxHeartbeats 4000000 in
set_option maxRecDepth 100000 in
theorem c_X9_within (l : Launch) (D : va_G) (kc : Nat → ClassId) (N : Nat) (x0 : Int32) (x1 : Int32) (x2 : Int32) (r_ : Int32) (hf : f_X9_within N x0 x1 x2 = some r_) : MZ l yX9_within wsX9_within ({ frames := 0, cells := 0, slots := 0, locals := 0 }) D kc [.int x0, .int x1, .int x2] (w_X9_within kc ) (w_X9_within kc ) r_ := by
  refine gM_Z (cc := cX9_within) (maxL := 3) (by decide) rfl (Nat.le_of_ble_eq_true rfl) ?_
  intro p e s m below meth c A ls Q hx hb hml hown hts hN hK hP hD hA hl kR
  have hS : va_S A s.heap s.heap [] := va_S.rf
  have hl : lv_has ls 3 [(0, .int x0), (1, .int x1), (2, .int x2)] := hl
  unfold f_X9_within at hf
  refine lv_iload_n hx hb dX9_within_0 rfl (lv_at hl 0 rfl) ?_
  refine lv_iload_n hx hb dX9_within_1 rfl (lv_at hl 1 rfl) ?_
  refine lv_icmp_lt (tgt := 14) hx hb dX9_within_2 (by decide) (fun hc => ?_) (fun hc => ?_)
  · have hf := o_t hc hf
    refine lv_iconst (v := 0) hx hb dX9_within_14 (by decide) ?_
    cases hf
    exact kR _ _ _ _ (Or.inl rfl) hP hD hS dX9_within_15
  · have hf := o_f hc hf
    refine lv_iload_n hx hb dX9_within_5 rfl (lv_at hl 0 rfl) ?_
    refine lv_iload_n hx hb dX9_within_6 rfl (lv_at hl 2 rfl) ?_
    refine lv_icmp_gt (tgt := 14) hx hb dX9_within_7 (by decide) (fun hc => ?_) (fun hc => ?_)
    · have hf := o_t hc hf
      refine lv_iconst (v := 0) hx hb dX9_within_14 (by decide) ?_
      cases hf
      exact kR _ _ _ _ (Or.inl rfl) hP hD hS dX9_within_15
    · have hf := o_f hc hf
      refine lv_iconst (v := 1) hx hb dX9_within_10 (by decide) ?_
      refine lv_goto (tgt := 15) hx hb dX9_within_11 (by decide) ?_
      cases hf
      exact kR _ _ _ _ (Or.inr rfl) hP hD hS dX9_within_15
abbrev w_X9_has (kc : Nat → ClassId) : va_W := []
set_option maxHeartbeats 4000000 in
set_option maxRecDepth 100000 in
theorem c_X9_has (l : Launch) (D : va_G) (kc : Nat → ClassId) (N : Nat) (x0 : Int32) (x1 : Int32) (r_ : Int32) (hf : f_X9_has N x0 x1 = some r_) : MZ l yX9_has wsX9_has ({ frames := 0, cells := 0, slots := 0, locals := 0 }) D kc [.int x0, .int x1] (w_X9_has kc ) (w_X9_has kc ) r_ := by
  refine gM_Z (cc := cX9_has) (maxL := 2) (by decide) rfl (Nat.le_of_ble_eq_true rfl) ?_
  intro p e s m below meth c A ls Q hx hb hml hown hts hN hK hP hD hA hl kR
  have hS : va_S A s.heap s.heap [] := va_S.rf
  have hl : lv_has ls 2 [(0, .int x0), (1, .int x1)] := hl
  unfold f_X9_has at hf
  refine lv_iload_n hx hb dX9_has_0 rfl (lv_at hl 0 rfl) ?_
  refine lv_iload_n hx hb dX9_has_1 rfl (lv_at hl 1 rfl) ?_
  refine lv_ishr hx hb dX9_has_2 ?_
  refine lv_iconst (v := 1) hx hb dX9_has_3 (by decide) ?_
  refine lv_iand hx hb dX9_has_4 ?_
  refine lv_iconst (v := 1) hx hb dX9_has_5 (by decide) ?_
  refine lv_icmp_ne (tgt := 13) hx hb dX9_has_6 (by decide) (fun hc => ?_) (fun hc => ?_)
  · have hf := o_f hc hf
    refine lv_iconst (v := 0) hx hb dX9_has_13 (by decide) ?_
    cases hf
    exact kR _ _ _ _ (Or.inl rfl) hP hD hS dX9_has_14
  · have hf := o_t hc hf
    refine lv_iconst (v := 1) hx hb dX9_has_9 (by decide) ?_
    refine lv_goto (tgt := 14) hx hb dX9_has_10 (by decide) ?_
    cases hf
    exact kR _ _ _ _ (Or.inr rfl) hP hD hS dX9_has_14
abbrev w_X9_bytesOf (kc : Nat → ClassId) (a0 a1 a2 a3 a4 a5 a6 a7 a8 a9 a10 a11 a12 a13 a14 a15 a16 a17 a18 a19 a20 a21 a22 a23 a24 a25 a26 a27 a28 : Nat) (thrown : Int32) (loftSize : Int32) (startWind : Int32) (seed : Int32) (draftLoft : Int32) (draftStart : Int32) (draftSeed : Int32) (length : Int32) (textSize : Int32) (start : Int32) (next_ : Int32) (token : Int32) (value : Int32) (error : Int32) (errorAt : Int32) (number : Int32) (undos : Int32) (text : Nat → Int32) : va_W := [(a0, .inr (9, [.int thrown, .ref a1, .ref a2, .ref a3, .ref a4, .ref a5, .ref a6, .ref a7, .ref a8, .ref a9, .ref a10, .ref a11, .ref a12, .ref a13, .ref a14, .ref a15, .ref a16, .ref a17, .ref a18, .ref a19, .int loftSize, .int startWind, .int seed, .int draftLoft, .int draftStart, .int draftSeed, .ref a20, .int length, .int textSize, .int start, .int next_, .int token, .int value, .int error, .int errorAt, .int number, .ref a21, .ref a22, .ref a23, .ref a24, .ref a25, .int undos, .ref a26, .ref a27, .ref a28])), (a20, .inl (kc 0, 900, .inl text))]
set_option maxHeartbeats 4000000 in
set_option maxRecDepth 100000 in
theorem c_X9_bytesOf (l : Launch) (D : va_G) (kc : Nat → ClassId) (N : Nat) (a0 a1 a2 a3 a4 a5 a6 a7 a8 a9 a10 a11 a12 a13 a14 a15 a16 a17 a18 a19 a20 a21 a22 a23 a24 a25 a26 a27 a28 : Nat) (thrown : Int32) (loftSize : Int32) (startWind : Int32) (seed : Int32) (draftLoft : Int32) (draftStart : Int32) (draftSeed : Int32) (length : Int32) (textSize : Int32) (start : Int32) (next_ : Int32) (token : Int32) (value : Int32) (error : Int32) (errorAt : Int32) (number : Int32) (undos : Int32) (text : Nat → Int32) (x1 : Int32) (length' : Int32) (text' : Nat → Int32) (hf : f_X9_bytesOf N length text x1 = some (length', text')) : MV l yX9_bytesOf wsX9_bytesOf ({ frames := 0, cells := 0, slots := 0, locals := 0 }) D kc [.ref a0, .int x1] (w_X9_bytesOf kc a0 a1 a2 a3 a4 a5 a6 a7 a8 a9 a10 a11 a12 a13 a14 a15 a16 a17 a18 a19 a20 a21 a22 a23 a24 a25 a26 a27 a28 thrown loftSize startWind seed draftLoft draftStart draftSeed length textSize start next_ token value error errorAt number undos text) (w_X9_bytesOf kc a0 a1 a2 a3 a4 a5 a6 a7 a8 a9 a10 a11 a12 a13 a14 a15 a16 a17 a18 a19 a20 a21 a22 a23 a24 a25 a26 a27 a28 thrown loftSize startWind seed draftLoft draftStart draftSeed length' textSize start next_ token value error errorAt number undos text') := by
  refine gM_V (cc := cX9_bytesOf) (maxL := 3) (by decide) rfl (Nat.le_of_ble_eq_true rfl) ?_
  intro p e s m below meth c A ls Q hx hb hml hown hts hN hK hP hD hA hl kR
  have hS : va_S A s.heap s.heap [] := va_S.rf
  have hl : lv_has ls 3 [(0, .ref a0), (1, .int x1)] := hl
  have in_X9 : ∀ w ∈ u_ws RX9 TX9 45, w ∈ wsX9_bytesOf := by decide +kernel
  have lk_71 := hts (.fieldLink RX9 71 "BalloonMailModel" "text" "[B") (by decide +kernel)
  have lk_113 := hts (.fieldLink RX9 113 "BalloonMailModel" "length" "I") (by decide +kernel)
  unfold f_X9_bytesOf at hf
  refine lv_bipush (v := 24) hx hb dX9_bytesOf_0 (by decide) ?_
  refine lv_istore_n (lv' := [(2, .int 24), (0, .ref a0), (1, .int x1)]) hx hb dX9_bytesOf_2 rfl hl (by decide) rfl (fun ls hl => ?_)
  have L3 : ∀ (n : Nat) (y2_3 : Int32) (length_3 : Int32) (text_3 : Nat → Int32) (y2_3o : Int32) (length_3o : Int32) (text_3o : Nat → Int32), f_X9_bytesOf_3 N x1 n y2_3 length_3 text_3 = some (y2_3o, length_3o, text_3o) → (∀ (H : Heap) (locs : List Loc) (ls : Array Slot), va_P D vwCl (w_X9_bytesOf kc a0 a1 a2 a3 a4 a5 a6 a7 a8 a9 a10 a11 a12 a13 a14 a15 a16 a17 a18 a19 a20 a21 a22 a23 a24 a25 a26 a27 a28 thrown loftSize startWind seed draftLoft draftStart draftSeed length_3o textSize start next_ token value error errorAt number undos text_3o) H → va_D A (w_X9_bytesOf kc a0 a1 a2 a3 a4 a5 a6 a7 a8 a9 a10 a11 a12 a13 a14 a15 a16 a17 a18 a19 a20 a21 a22 a23 a24 a25 a26 a27 a28 thrown loftSize startWind seed draftLoft draftStart draftSeed length_3o textSize start next_ token value error errorAt number undos text_3o) → va_S A s.heap H locs → lv_has ls 3 [(0, .ref a0), (1, .int x1), (2, .int y2_3o)] → W p l e ({ frames := 0, cells := 0, slots := 0, locals := 0 }) s m (([.ref a0, .int x1] : List Value).toArray) below meth c H locs 0 0 Q (F0 m 36 ls [])) → ∀ (H : Heap) (locs : List Loc) (ls : Array Slot), va_P D vwCl (w_X9_bytesOf kc a0 a1 a2 a3 a4 a5 a6 a7 a8 a9 a10 a11 a12 a13 a14 a15 a16 a17 a18 a19 a20 a21 a22 a23 a24 a25 a26 a27 a28 thrown loftSize startWind seed draftLoft draftStart draftSeed length_3 textSize start next_ token value error errorAt number undos text_3) H → va_D A (w_X9_bytesOf kc a0 a1 a2 a3 a4 a5 a6 a7 a8 a9 a10 a11 a12 a13 a14 a15 a16 a17 a18 a19 a20 a21 a22 a23 a24 a25 a26 a27 a28 thrown loftSize startWind seed draftLoft draftStart draftSeed length_3 textSize start next_ token value error errorAt number undos text_3) → va_S A s.heap H locs → lv_has ls 3 [(0, .ref a0), (1, .int x1), (2, .int y2_3)] → W p l e ({ frames := 0, cells := 0, slots := 0, locals := 0 }) s m (([.ref a0, .int x1] : List Value).toArray) below meth c H locs 0 0 Q (F0 m 3 ls []) := by
    intro n
    induction n with
    | zero => intro _ _ _ _ _ _ hf; rw [f_X9_bytesOf_3.eq_1] at hf; cases hf
    | succ n ih =>
      intro y2_3 length_3 text_3 y2_3o length_3o text_3o hf hk H locs ls hP hD hS hl
      rw [f_X9_bytesOf_3.eq_2] at hf
      refine lv_iload_n hx hb dX9_bytesOf_3 rfl (lv_at hl 2 rfl) ?_
      refine lv_if_lt (tgt := 36) hx hb dX9_bytesOf_4 (by decide) (fun hc => ?_) (fun hc => ?_)
      · have hf := o_t hc hf
        cases hf
        exact hk _ _ _ hP hD hS (lv_sub hl [0, 1, 2] rfl)
      · have hf := o_f hc hf
        refine lv_aload_n hx hb dX9_bytesOf_7 rfl (lv_at hl 0 rfl) ?_
        refine va_get (D := D) (ci := 9) (v := .ref a20) (C := RX9) (T := TX9) (N := 45) hx hb hts in_X9 hown hK hP 0 rfl rfl 26 (by decide) lk_71 (fun _ h9 => h9) rfl dX9_bytesOf_8 ?_
        refine lv_aload_n hx hb dX9_bytesOf_11 rfl (lv_at hl 0 rfl) ?_
        refine va_get (D := D) (ci := 9) (v := .int length_3) (C := RX9) (T := TX9) (N := 45) hx hb hts in_X9 hown hK hP 0 rfl rfl 27 (by decide) lk_113 (fun _ h9 => h9) rfl dX9_bytesOf_12 ?_
        refine lv_iload_n hx hb dX9_bytesOf_15 rfl (lv_at hl 1 rfl) ?_
        refine lv_iload_n hx hb dX9_bytesOf_16 rfl (lv_at hl 2 rfl) ?_
        refine lv_ishr hx hb dX9_bytesOf_17 ?_
        refine lv_i2b (v := (((x1 : Int32) >>> ((y2_3 : Int32) &&& 31)) : Int32).toInt8.toInt32) hx hb dX9_bytesOf_18 rfl ?_
        obtain ⟨hi, hf⟩ := gIx_some hf
        refine va_bast hx hb hK hP hD hS 1 0 rfl rfl hi dX9_bytesOf_19 (fun H locs hP hD hS => ?_)
        have hP : va_P D vwCl (w_X9_bytesOf kc a0 a1 a2 a3 a4 a5 a6 a7 a8 a9 a10 a11 a12 a13 a14 a15 a16 a17 a18 a19 a20 a21 a22 a23 a24 a25 a26 a27 a28 thrown loftSize startWind seed draftLoft draftStart draftSeed length_3 textSize start next_ token value error errorAt number undos (upd text_3 (length_3 : Int32).toNatClampNeg (vp_nar .byte ((((x1 : Int32) >>> ((y2_3 : Int32) &&& 31)) : Int32).toInt8.toInt32)))) H := hP
        have hD : va_D A (w_X9_bytesOf kc a0 a1 a2 a3 a4 a5 a6 a7 a8 a9 a10 a11 a12 a13 a14 a15 a16 a17 a18 a19 a20 a21 a22 a23 a24 a25 a26 a27 a28 thrown loftSize startWind seed draftLoft draftStart draftSeed length_3 textSize start next_ token value error errorAt number undos (upd text_3 (length_3 : Int32).toNatClampNeg (vp_nar .byte ((((x1 : Int32) >>> ((y2_3 : Int32) &&& 31)) : Int32).toInt8.toInt32)))) := hD
        refine lv_aload_n hx hb dX9_bytesOf_20 rfl (lv_at hl 0 rfl) ?_
        refine lv_dup hx hb dX9_bytesOf_21 rfl ?_
        refine va_get (D := D) (ci := 9) (v := .int length_3) (C := RX9) (T := TX9) (N := 45) hx hb hts in_X9 hown hK hP 0 rfl rfl 27 (by decide) lk_113 (fun _ h9 => h9) rfl dX9_bytesOf_22 ?_
        refine lv_iconst (v := 1) hx hb dX9_bytesOf_25 (by decide) ?_
        refine lv_iadd hx hb dX9_bytesOf_26 ?_
        refine va_put (D := D) (ci := 9) (v := .int (length_3 + 1)) (ty := .int) (C := RX9) (T := TX9) (N := 45) hx hb hts in_X9 tyX9 tyX9_ok nmX9 hown hK hP hD hS 0 rfl rfl 27 (by decide) lk_113 (fun _ h9 => h9) rfl (by decide +kernel) rfl rfl (Nat.le_of_ble_eq_true rfl) dX9_bytesOf_27 (fun H locs hP hD hS => ?_)
        have hP : va_P D vwCl (w_X9_bytesOf kc a0 a1 a2 a3 a4 a5 a6 a7 a8 a9 a10 a11 a12 a13 a14 a15 a16 a17 a18 a19 a20 a21 a22 a23 a24 a25 a26 a27 a28 thrown loftSize startWind seed draftLoft draftStart draftSeed (length_3 + 1) textSize start next_ token value error errorAt number undos (upd text_3 (length_3 : Int32).toNatClampNeg (vp_nar .byte ((((x1 : Int32) >>> ((y2_3 : Int32) &&& 31)) : Int32).toInt8.toInt32)))) H := hP
        have hD : va_D A (w_X9_bytesOf kc a0 a1 a2 a3 a4 a5 a6 a7 a8 a9 a10 a11 a12 a13 a14 a15 a16 a17 a18 a19 a20 a21 a22 a23 a24 a25 a26 a27 a28 thrown loftSize startWind seed draftLoft draftStart draftSeed (length_3 + 1) textSize start next_ token value error errorAt number undos (upd text_3 (length_3 : Int32).toNatClampNeg (vp_nar .byte ((((x1 : Int32) >>> ((y2_3 : Int32) &&& 31)) : Int32).toInt8.toInt32)))) := hD
        refine lv_iinc (v := (y2_3 + (-8))) (lv' := [(2, .int (y2_3 + (-8))), (0, .ref a0), (1, .int x1)]) hx hb dX9_bytesOf_30 hl (k := 2) rfl (by rfl) (by decide) rfl (fun ls hl => ?_)
        refine lv_goto (tgt := 3) hx hb dX9_bytesOf_33 (by decide) ?_
        exact ih _ _ _ _ _ _ hf hk _ _ _ hP hD hS (lv_sub hl [1, 2, 0] rfl)
  obtain ⟨y2_3o, length_3o, text_3o, hc, hf⟩ := ob3_some hf
  refine L3 N _ _ _ _ _ _ hc (fun H locs ls hP hD hS hl => ?_) _ _ _ hP hD hS (lv_sub hl [1, 2, 0] rfl)
  cases hf
  exact kR _ _ _ _ hP hD hS dX9_bytesOf_36
abbrev w_X9_append (kc : Nat → ClassId) (a0 a1 a2 a3 a4 a5 a6 a7 a8 a9 a10 a11 a12 a13 a14 a15 a16 a17 a18 a19 a20 a21 a22 a23 a24 a25 a26 a27 a28 : Nat) (thrown : Int32) (loftSize : Int32) (startWind : Int32) (seed : Int32) (draftLoft : Int32) (draftStart : Int32) (draftSeed : Int32) (length : Int32) (textSize : Int32) (start : Int32) (next_ : Int32) (token : Int32) (value : Int32) (error : Int32) (errorAt : Int32) (number : Int32) (undos : Int32) (text : Nat → Int32) : va_W := [(a0, .inr (9, [.int thrown, .ref a1, .ref a2, .ref a3, .ref a4, .ref a5, .ref a6, .ref a7, .ref a8, .ref a9, .ref a10, .ref a11, .ref a12, .ref a13, .ref a14, .ref a15, .ref a16, .ref a17, .ref a18, .ref a19, .int loftSize, .int startWind, .int seed, .int draftLoft, .int draftStart, .int draftSeed, .ref a20, .int length, .int textSize, .int start, .int next_, .int token, .int value, .int error, .int errorAt, .int number, .ref a21, .ref a22, .ref a23, .ref a24, .ref a25, .int undos, .ref a26, .ref a27, .ref a28])), (a20, .inl (kc 0, 900, .inl text))]
set_option maxHeartbeats 4000000 in
set_option maxRecDepth 100000 in
theorem c_X9_append (l : Launch) (D : va_G) (kc : Nat → ClassId) (N : Nat) (a0 a1 a2 a3 a4 a5 a6 a7 a8 a9 a10 a11 a12 a13 a14 a15 a16 a17 a18 a19 a20 a21 a22 a23 a24 a25 a26 a27 a28 : Nat) (thrown : Int32) (loftSize : Int32) (startWind : Int32) (seed : Int32) (draftLoft : Int32) (draftStart : Int32) (draftSeed : Int32) (length : Int32) (textSize : Int32) (start : Int32) (next_ : Int32) (token : Int32) (value : Int32) (error : Int32) (errorAt : Int32) (number : Int32) (undos : Int32) (text : Nat → Int32) (x1 : Int32) (x2 : Int32) (x3 : Int32) (x4 : Int32) (x5 : Int32) (r_ : Int32) (thrown' : Int32) (length' : Int32) (text' : Nat → Int32) (hf : f_X9_append N length text x1 x2 x3 x4 x5 = some (r_, thrown', length', text')) : MI l yX9_append wsX9_append ({ frames := 1, cells := 0, slots := 0, locals := 22 }) D kc [.ref a0, .int x1, .int x2, .int x3, .int x4, .int x5] (w_X9_append kc a0 a1 a2 a3 a4 a5 a6 a7 a8 a9 a10 a11 a12 a13 a14 a15 a16 a17 a18 a19 a20 a21 a22 a23 a24 a25 a26 a27 a28 thrown loftSize startWind seed draftLoft draftStart draftSeed length textSize start next_ token value error errorAt number undos text) (w_X9_append kc a0 a1 a2 a3 a4 a5 a6 a7 a8 a9 a10 a11 a12 a13 a14 a15 a16 a17 a18 a19 a20 a21 a22 a23 a24 a25 a26 a27 a28 thrown' loftSize startWind seed draftLoft draftStart draftSeed length' textSize start next_ token value error errorAt number undos text') r_ := by
  refine gM_I (cc := cX9_append) (maxL := 6) (by decide) rfl (Nat.le_of_ble_eq_true rfl) ?_
  intro p e s m below meth c A ls Q hx hb hml hown hts hN hK hP hD hA hl kR
  have hS : va_S A s.heap s.heap [] := va_S.rf
  have hl : lv_has ls 6 [(0, .ref a0), (1, .int x1), (2, .int x2), (3, .int x3), (4, .int x4), (5, .int x5)] := hl
  have in_X9 : ∀ w ∈ u_ws RX9 TX9 45, w ∈ wsX9_append := by decide +kernel
  have lk_1 := hts (.fieldLink RX9 1 "BalloonMailModel" "thrown" "I") (by decide +kernel)
  have lk_113 := hts (.fieldLink RX9 113 "BalloonMailModel" "length" "I") (by decide +kernel)
  unfold f_X9_append at hf
  refine lv_aload_n hx hb dX9_append_0 rfl (lv_at hl 0 rfl) ?_
  refine lv_iconst (v := 0) hx hb dX9_append_1 (by decide) ?_
  refine va_put (D := D) (ci := 9) (v := .int 0) (ty := .int) (C := RX9) (T := TX9) (N := 45) hx hb hts in_X9 tyX9 tyX9_ok nmX9 hown hK hP hD hS 0 rfl rfl 0 (by decide) lk_1 (fun _ h9 => h9) rfl (by decide +kernel) rfl rfl (Nat.le_of_ble_eq_true rfl) dX9_append_2 (fun H locs hP hD hS => ?_)
  have hP : va_P D vwCl (w_X9_append kc a0 a1 a2 a3 a4 a5 a6 a7 a8 a9 a10 a11 a12 a13 a14 a15 a16 a17 a18 a19 a20 a21 a22 a23 a24 a25 a26 a27 a28 0 loftSize startWind seed draftLoft draftStart draftSeed length textSize start next_ token value error errorAt number undos text) H := hP
  have hD : va_D A (w_X9_append kc a0 a1 a2 a3 a4 a5 a6 a7 a8 a9 a10 a11 a12 a13 a14 a15 a16 a17 a18 a19 a20 a21 a22 a23 a24 a25 a26 a27 a28 0 loftSize startWind seed draftLoft draftStart draftSeed length textSize start next_ token value error errorAt number undos text) := hD
  refine lv_aload_n hx hb dX9_append_5 rfl (lv_at hl 0 rfl) ?_
  refine va_get (D := D) (ci := 9) (v := .int length) (C := RX9) (T := TX9) (N := 45) hx hb hts in_X9 hown hK hP 0 rfl rfl 27 (by decide) lk_113 (fun _ h9 => h9) rfl dX9_append_6 ?_
  refine lv_bipush (v := 20) hx hb dX9_append_9 (by decide) ?_
  refine lv_iadd hx hb dX9_append_11 ?_
  refine lv_sipush (v := 900) hx hb dX9_append_12 (by decide) ?_
  refine lv_icmp_le (tgt := 20) hx hb dX9_append_15 (by decide) (fun hc => ?_) (fun hc => ?_)
  · have hf := o_t hc hf
    refine lv_aload_n hx hb dX9_append_20 rfl (lv_at hl 0 rfl) ?_
    refine lv_iload_n hx hb dX9_append_21 rfl (lv_at hl 1 rfl) ?_
    obtain ⟨length_1, text_2, hc, hf⟩ := ob2_some hf
    refine g_VV (As := [.int x1]) (rest := []) (ws' := (w_X9_append kc a0 a1 a2 a3 a4 a5 a6 a7 a8 a9 a10 a11 a12 a13 a14 a15 a16 a17 a18 a19 a20 a21 a22 a23 a24 a25 a26 a27 a28 0 loftSize startWind seed draftLoft draftStart draftSeed length_1 textSize start next_ token value error errorAt number undos text_2)) ⟨hx, hb, hml, hown, hts⟩ hN hK hP hD hS hA (c_X9_bytesOf l D kc N a0 a1 a2 a3 a4 a5 a6 a7 a8 a9 a10 a11 a12 a13 a14 a15 a16 a17 a18 a19 a20 a21 a22 a23 a24 a25 a26 a27 a28 0 loftSize startWind seed draftLoft draftStart draftSeed length textSize start next_ token value error errorAt number undos text x1 length_1 text_2 hc) (cwV 1 hts gX9_append_X9_bytesOf rfl rfl rfl (by decide +kernel) ⟨Nat.le_of_ble_eq_true rfl, Nat.le_of_ble_eq_true rfl⟩) [0, 1] [] [0, 1] (by exact ⟨rfl, rfl, by decide, rfl⟩) 0 9 rfl rfl rfl rfl hl.1 rfl (Nat.le_of_ble_eq_true rfl) dX9_append_22 ⟨Nat.le_refl _, Nat.le_refl _⟩ (fun H locs hP hD hS => ?_)
    refine lv_aload_n hx hb dX9_append_25 rfl (lv_at hl 0 rfl) ?_
    refine lv_iload_n hx hb dX9_append_26 rfl (lv_at hl 2 rfl) ?_
    obtain ⟨length_3, text_4, hc, hf⟩ := ob2_some hf
    refine g_VV (As := [.int x2]) (rest := []) (ws' := (w_X9_append kc a0 a1 a2 a3 a4 a5 a6 a7 a8 a9 a10 a11 a12 a13 a14 a15 a16 a17 a18 a19 a20 a21 a22 a23 a24 a25 a26 a27 a28 0 loftSize startWind seed draftLoft draftStart draftSeed length_3 textSize start next_ token value error errorAt number undos text_4)) ⟨hx, hb, hml, hown, hts⟩ hN hK hP hD hS hA (c_X9_bytesOf l D kc N a0 a1 a2 a3 a4 a5 a6 a7 a8 a9 a10 a11 a12 a13 a14 a15 a16 a17 a18 a19 a20 a21 a22 a23 a24 a25 a26 a27 a28 0 loftSize startWind seed draftLoft draftStart draftSeed length_1 textSize start next_ token value error errorAt number undos text_2 x2 length_3 text_4 hc) (cwV 1 hts gX9_append_X9_bytesOf rfl rfl rfl (by decide +kernel) ⟨Nat.le_of_ble_eq_true rfl, Nat.le_of_ble_eq_true rfl⟩) [0, 1] [] [0, 1] (by exact ⟨rfl, rfl, by decide, rfl⟩) 0 9 rfl rfl rfl rfl hl.1 rfl (Nat.le_of_ble_eq_true rfl) dX9_append_27 ⟨Nat.le_refl _, Nat.le_refl _⟩ (fun H locs hP hD hS => ?_)
    refine lv_aload_n hx hb dX9_append_30 rfl (lv_at hl 0 rfl) ?_
    refine lv_iload_n hx hb dX9_append_31 rfl (lv_at hl 3 rfl) ?_
    obtain ⟨length_5, text_6, hc, hf⟩ := ob2_some hf
    refine g_VV (As := [.int x3]) (rest := []) (ws' := (w_X9_append kc a0 a1 a2 a3 a4 a5 a6 a7 a8 a9 a10 a11 a12 a13 a14 a15 a16 a17 a18 a19 a20 a21 a22 a23 a24 a25 a26 a27 a28 0 loftSize startWind seed draftLoft draftStart draftSeed length_5 textSize start next_ token value error errorAt number undos text_6)) ⟨hx, hb, hml, hown, hts⟩ hN hK hP hD hS hA (c_X9_bytesOf l D kc N a0 a1 a2 a3 a4 a5 a6 a7 a8 a9 a10 a11 a12 a13 a14 a15 a16 a17 a18 a19 a20 a21 a22 a23 a24 a25 a26 a27 a28 0 loftSize startWind seed draftLoft draftStart draftSeed length_3 textSize start next_ token value error errorAt number undos text_4 x3 length_5 text_6 hc) (cwV 1 hts gX9_append_X9_bytesOf rfl rfl rfl (by decide +kernel) ⟨Nat.le_of_ble_eq_true rfl, Nat.le_of_ble_eq_true rfl⟩) [0, 1] [] [0, 1] (by exact ⟨rfl, rfl, by decide, rfl⟩) 0 9 rfl rfl rfl rfl hl.1 rfl (Nat.le_of_ble_eq_true rfl) dX9_append_32 ⟨Nat.le_refl _, Nat.le_refl _⟩ (fun H locs hP hD hS => ?_)
    refine lv_aload_n hx hb dX9_append_35 rfl (lv_at hl 0 rfl) ?_
    refine lv_iload hx hb dX9_append_36 (lv_at hl 4 rfl) ?_
    obtain ⟨length_7, text_8, hc, hf⟩ := ob2_some hf
    refine g_VV (As := [.int x4]) (rest := []) (ws' := (w_X9_append kc a0 a1 a2 a3 a4 a5 a6 a7 a8 a9 a10 a11 a12 a13 a14 a15 a16 a17 a18 a19 a20 a21 a22 a23 a24 a25 a26 a27 a28 0 loftSize startWind seed draftLoft draftStart draftSeed length_7 textSize start next_ token value error errorAt number undos text_8)) ⟨hx, hb, hml, hown, hts⟩ hN hK hP hD hS hA (c_X9_bytesOf l D kc N a0 a1 a2 a3 a4 a5 a6 a7 a8 a9 a10 a11 a12 a13 a14 a15 a16 a17 a18 a19 a20 a21 a22 a23 a24 a25 a26 a27 a28 0 loftSize startWind seed draftLoft draftStart draftSeed length_5 textSize start next_ token value error errorAt number undos text_6 x4 length_7 text_8 hc) (cwV 1 hts gX9_append_X9_bytesOf rfl rfl rfl (by decide +kernel) ⟨Nat.le_of_ble_eq_true rfl, Nat.le_of_ble_eq_true rfl⟩) [0, 1] [] [0, 1] (by exact ⟨rfl, rfl, by decide, rfl⟩) 0 9 rfl rfl rfl rfl hl.1 rfl (Nat.le_of_ble_eq_true rfl) dX9_append_38 ⟨Nat.le_refl _, Nat.le_refl _⟩ (fun H locs hP hD hS => ?_)
    refine lv_aload_n hx hb dX9_append_41 rfl (lv_at hl 0 rfl) ?_
    refine lv_iload hx hb dX9_append_42 (lv_at hl 5 rfl) ?_
    obtain ⟨length_9, text_10, hc, hf⟩ := ob2_some hf
    refine g_VV (As := [.int x5]) (rest := []) (ws' := (w_X9_append kc a0 a1 a2 a3 a4 a5 a6 a7 a8 a9 a10 a11 a12 a13 a14 a15 a16 a17 a18 a19 a20 a21 a22 a23 a24 a25 a26 a27 a28 0 loftSize startWind seed draftLoft draftStart draftSeed length_9 textSize start next_ token value error errorAt number undos text_10)) ⟨hx, hb, hml, hown, hts⟩ hN hK hP hD hS hA (c_X9_bytesOf l D kc N a0 a1 a2 a3 a4 a5 a6 a7 a8 a9 a10 a11 a12 a13 a14 a15 a16 a17 a18 a19 a20 a21 a22 a23 a24 a25 a26 a27 a28 0 loftSize startWind seed draftLoft draftStart draftSeed length_7 textSize start next_ token value error errorAt number undos text_8 x5 length_9 text_10 hc) (cwV 1 hts gX9_append_X9_bytesOf rfl rfl rfl (by decide +kernel) ⟨Nat.le_of_ble_eq_true rfl, Nat.le_of_ble_eq_true rfl⟩) [0, 1] [] [0, 1] (by exact ⟨rfl, rfl, by decide, rfl⟩) 0 9 rfl rfl rfl rfl hl.1 rfl (Nat.le_of_ble_eq_true rfl) dX9_append_44 ⟨Nat.le_refl _, Nat.le_refl _⟩ (fun H locs hP hD hS => ?_)
    refine lv_aload_n hx hb dX9_append_47 rfl (lv_at hl 0 rfl) ?_
    refine va_get (D := D) (ci := 9) (v := .int length_9) (C := RX9) (T := TX9) (N := 45) hx hb hts in_X9 hown hK hP 0 rfl rfl 27 (by decide) lk_113 (fun _ h9 => h9) rfl dX9_append_48 ?_
    cases hf
    exact kR _ _ _ _ hP hD hS dX9_append_51
  · have hf := o_f hc hf
    refine lv_iconst (v := (-1)) hx hb dX9_append_18 (by decide) ?_
    cases hf
    exact kR _ _ _ _ hP hD hS dX9_append_19
abbrev w_X9_byteAt (kc : Nat → ClassId) (a0 a1 a2 a3 a4 a5 a6 a7 a8 a9 a10 a11 a12 a13 a14 a15 a16 a17 a18 a19 a20 a21 a22 a23 a24 a25 a26 a27 a28 : Nat) (thrown : Int32) (loftSize : Int32) (startWind : Int32) (seed : Int32) (draftLoft : Int32) (draftStart : Int32) (draftSeed : Int32) (length : Int32) (textSize : Int32) (start : Int32) (next_ : Int32) (token : Int32) (value : Int32) (error : Int32) (errorAt : Int32) (number : Int32) (undos : Int32) (text : Nat → Int32) : va_W := [(a0, .inr (9, [.int thrown, .ref a1, .ref a2, .ref a3, .ref a4, .ref a5, .ref a6, .ref a7, .ref a8, .ref a9, .ref a10, .ref a11, .ref a12, .ref a13, .ref a14, .ref a15, .ref a16, .ref a17, .ref a18, .ref a19, .int loftSize, .int startWind, .int seed, .int draftLoft, .int draftStart, .int draftSeed, .ref a20, .int length, .int textSize, .int start, .int next_, .int token, .int value, .int error, .int errorAt, .int number, .ref a21, .ref a22, .ref a23, .ref a24, .ref a25, .int undos, .ref a26, .ref a27, .ref a28])), (a20, .inl (kc 0, 900, .inl text))]
set_option maxHeartbeats 4000000 in
set_option maxRecDepth 100000 in
theorem c_X9_byteAt (l : Launch) (D : va_G) (kc : Nat → ClassId) (N : Nat) (a0 a1 a2 a3 a4 a5 a6 a7 a8 a9 a10 a11 a12 a13 a14 a15 a16 a17 a18 a19 a20 a21 a22 a23 a24 a25 a26 a27 a28 : Nat) (thrown : Int32) (loftSize : Int32) (startWind : Int32) (seed : Int32) (draftLoft : Int32) (draftStart : Int32) (draftSeed : Int32) (length : Int32) (textSize : Int32) (start : Int32) (next_ : Int32) (token : Int32) (value : Int32) (error : Int32) (errorAt : Int32) (number : Int32) (undos : Int32) (text : Nat → Int32) (x1 : Int32) (r_ : Int32) (hf : f_X9_byteAt N textSize text x1 = some r_) : MI l yX9_byteAt wsX9_byteAt ({ frames := 0, cells := 0, slots := 0, locals := 0 }) D kc [.ref a0, .int x1] (w_X9_byteAt kc a0 a1 a2 a3 a4 a5 a6 a7 a8 a9 a10 a11 a12 a13 a14 a15 a16 a17 a18 a19 a20 a21 a22 a23 a24 a25 a26 a27 a28 thrown loftSize startWind seed draftLoft draftStart draftSeed length textSize start next_ token value error errorAt number undos text) (w_X9_byteAt kc a0 a1 a2 a3 a4 a5 a6 a7 a8 a9 a10 a11 a12 a13 a14 a15 a16 a17 a18 a19 a20 a21 a22 a23 a24 a25 a26 a27 a28 thrown loftSize startWind seed draftLoft draftStart draftSeed length textSize start next_ token value error errorAt number undos text) r_ := by
  refine gM_I (cc := cX9_byteAt) (maxL := 2) (by decide) rfl (Nat.le_of_ble_eq_true rfl) ?_
  intro p e s m below meth c A ls Q hx hb hml hown hts hN hK hP hD hA hl kR
  have hS : va_S A s.heap s.heap [] := va_S.rf
  have hl : lv_has ls 2 [(0, .ref a0), (1, .int x1)] := hl
  have in_X9 : ∀ w ∈ u_ws RX9 TX9 45, w ∈ wsX9_byteAt := by decide +kernel
  have lk_120 := hts (.fieldLink RX9 120 "BalloonMailModel" "textSize" "I") (by decide +kernel)
  have lk_71 := hts (.fieldLink RX9 71 "BalloonMailModel" "text" "[B") (by decide +kernel)
  unfold f_X9_byteAt at hf
  refine lv_iload_n hx hb dX9_byteAt_0 rfl (lv_at hl 1 rfl) ?_
  refine lv_aload_n hx hb dX9_byteAt_1 rfl (lv_at hl 0 rfl) ?_
  refine va_get (D := D) (ci := 9) (v := .int textSize) (C := RX9) (T := TX9) (N := 45) hx hb hts in_X9 hown hK hP 0 rfl rfl 28 (by decide) lk_120 (fun _ h9 => h9) rfl dX9_byteAt_2 ?_
  refine lv_icmp_ge (tgt := 21) hx hb dX9_byteAt_5 (by decide) (fun hc => ?_) (fun hc => ?_)
  · have hf := o_t hc hf
    refine lv_bipush (v := (-2)) hx hb dX9_byteAt_21 (by decide) ?_
    cases hf
    exact kR _ _ _ _ hP hD hS dX9_byteAt_23
  · have hf := o_f hc hf
    refine lv_aload_n hx hb dX9_byteAt_8 rfl (lv_at hl 0 rfl) ?_
    refine va_get (D := D) (ci := 9) (v := .ref a20) (C := RX9) (T := TX9) (N := 45) hx hb hts in_X9 hown hK hP 0 rfl rfl 26 (by decide) lk_71 (fun _ h9 => h9) rfl dX9_byteAt_9 ?_
    refine lv_iload_n hx hb dX9_byteAt_12 rfl (lv_at hl 1 rfl) ?_
    obtain ⟨hi, hf⟩ := gIx_some hf
    refine va_bald hx hb hK hP 1 0 rfl rfl hi dX9_byteAt_13 ?_
    refine lv_sipush (v := 255) hx hb dX9_byteAt_14 (by decide) ?_
    refine lv_iand hx hb dX9_byteAt_17 ?_
    refine lv_goto (tgt := 23) hx hb dX9_byteAt_18 (by decide) ?_
    cases hf
    exact kR _ _ _ _ hP hD hS dX9_byteAt_23
abbrev w_X9_advance (kc : Nat → ClassId) (a0 a1 a2 a3 a4 a5 a6 a7 a8 a9 a10 a11 a12 a13 a14 a15 a16 a17 a18 a19 a20 a21 a22 a23 a24 a25 a26 a27 a28 : Nat) (thrown : Int32) (loftSize : Int32) (startWind : Int32) (seed : Int32) (draftLoft : Int32) (draftStart : Int32) (draftSeed : Int32) (length : Int32) (textSize : Int32) (start : Int32) (next_ : Int32) (token : Int32) (value : Int32) (error : Int32) (errorAt : Int32) (number : Int32) (undos : Int32) (text : Nat → Int32) : va_W := [(a0, .inr (9, [.int thrown, .ref a1, .ref a2, .ref a3, .ref a4, .ref a5, .ref a6, .ref a7, .ref a8, .ref a9, .ref a10, .ref a11, .ref a12, .ref a13, .ref a14, .ref a15, .ref a16, .ref a17, .ref a18, .ref a19, .int loftSize, .int startWind, .int seed, .int draftLoft, .int draftStart, .int draftSeed, .ref a20, .int length, .int textSize, .int start, .int next_, .int token, .int value, .int error, .int errorAt, .int number, .ref a21, .ref a22, .ref a23, .ref a24, .ref a25, .int undos, .ref a26, .ref a27, .ref a28])), (a20, .inl (kc 0, 900, .inl text))]
set_option maxHeartbeats 4000000 in
set_option maxRecDepth 100000 in
theorem c_X9_advance (l : Launch) (D : va_G) (kc : Nat → ClassId) (N : Nat) (a0 a1 a2 a3 a4 a5 a6 a7 a8 a9 a10 a11 a12 a13 a14 a15 a16 a17 a18 a19 a20 a21 a22 a23 a24 a25 a26 a27 a28 : Nat) (thrown : Int32) (loftSize : Int32) (startWind : Int32) (seed : Int32) (draftLoft : Int32) (draftStart : Int32) (draftSeed : Int32) (length : Int32) (textSize : Int32) (start : Int32) (next_ : Int32) (token : Int32) (value : Int32) (error : Int32) (errorAt : Int32) (number : Int32) (undos : Int32) (text : Nat → Int32) (start' : Int32) (next_' : Int32) (token' : Int32) (value' : Int32) (hf : f_X9_advance N textSize next_ text = some (start', next_', token', value')) : MV l yX9_advance wsX9_advance ({ frames := 1, cells := 0, slots := 0, locals := 22 }) D kc [.ref a0] (w_X9_advance kc a0 a1 a2 a3 a4 a5 a6 a7 a8 a9 a10 a11 a12 a13 a14 a15 a16 a17 a18 a19 a20 a21 a22 a23 a24 a25 a26 a27 a28 thrown loftSize startWind seed draftLoft draftStart draftSeed length textSize start next_ token value error errorAt number undos text) (w_X9_advance kc a0 a1 a2 a3 a4 a5 a6 a7 a8 a9 a10 a11 a12 a13 a14 a15 a16 a17 a18 a19 a20 a21 a22 a23 a24 a25 a26 a27 a28 thrown loftSize startWind seed draftLoft draftStart draftSeed length textSize start' next_' token' value' error errorAt number undos text) := by
  refine gM_V (cc := cX9_advance) (maxL := 2) (by decide) rfl (Nat.le_of_ble_eq_true rfl) ?_
  intro p e s m below meth c A ls Q hx hb hml hown hts hN hK hP hD hA hl kR
  have hS : va_S A s.heap s.heap [] := va_S.rf
  have hl : lv_has ls 2 [(0, .ref a0)] := hl
  have in_X9 : ∀ w ∈ u_ws RX9 TX9 45, w ∈ wsX9_advance := by decide +kernel
  have lk_123 := hts (.fieldLink RX9 123 "BalloonMailModel" "next" "I") (by decide +kernel)
  have lk_130 := hts (.fieldLink RX9 130 "BalloonMailModel" "start" "I") (by decide +kernel)
  have lk_133 := hts (.fieldLink RX9 133 "BalloonMailModel" "value" "I") (by decide +kernel)
  have lk_136 := hts (.fieldLink RX9 136 "BalloonMailModel" "token" "I") (by decide +kernel)
  unfold f_X9_advance at hf
  have L0 : ∀ (n : Nat) (next__0 : Int32) (next__0o : Int32), f_X9_advance_0 N textSize text n next__0 = some next__0o → (∀ (H : Heap) (locs : List Loc) (ls : Array Slot), va_P D vwCl (w_X9_advance kc a0 a1 a2 a3 a4 a5 a6 a7 a8 a9 a10 a11 a12 a13 a14 a15 a16 a17 a18 a19 a20 a21 a22 a23 a24 a25 a26 a27 a28 thrown loftSize startWind seed draftLoft draftStart draftSeed length textSize start next__0o token value error errorAt number undos text) H → va_D A (w_X9_advance kc a0 a1 a2 a3 a4 a5 a6 a7 a8 a9 a10 a11 a12 a13 a14 a15 a16 a17 a18 a19 a20 a21 a22 a23 a24 a25 a26 a27 a28 thrown loftSize startWind seed draftLoft draftStart draftSeed length textSize start next__0o token value error errorAt number undos text) → va_S A s.heap H locs → lv_has ls 2 [(0, .ref a0)] → W p l e ({ frames := 1, cells := 0, slots := 0, locals := 22 }) s m (([.ref a0] : List Value).toArray) below meth c H locs 0 0 Q (F0 m 39 ls [])) → ∀ (H : Heap) (locs : List Loc) (ls : Array Slot), va_P D vwCl (w_X9_advance kc a0 a1 a2 a3 a4 a5 a6 a7 a8 a9 a10 a11 a12 a13 a14 a15 a16 a17 a18 a19 a20 a21 a22 a23 a24 a25 a26 a27 a28 thrown loftSize startWind seed draftLoft draftStart draftSeed length textSize start next__0 token value error errorAt number undos text) H → va_D A (w_X9_advance kc a0 a1 a2 a3 a4 a5 a6 a7 a8 a9 a10 a11 a12 a13 a14 a15 a16 a17 a18 a19 a20 a21 a22 a23 a24 a25 a26 a27 a28 thrown loftSize startWind seed draftLoft draftStart draftSeed length textSize start next__0 token value error errorAt number undos text) → va_S A s.heap H locs → lv_has ls 2 [(0, .ref a0)] → W p l e ({ frames := 1, cells := 0, slots := 0, locals := 22 }) s m (([.ref a0] : List Value).toArray) below meth c H locs 0 0 Q (F0 m 0 ls []) := by
    intro n
    induction n with
    | zero => intro _ _ hf; rw [f_X9_advance_0.eq_1] at hf; cases hf
    | succ n ih =>
      intro next__0 next__0o hf hk H locs ls hP hD hS hl
      rw [f_X9_advance_0.eq_2] at hf
      refine lv_aload_n hx hb dX9_advance_0 rfl (lv_at hl 0 rfl) ?_
      refine lv_aload_n hx hb dX9_advance_1 rfl (lv_at hl 0 rfl) ?_
      refine va_get (D := D) (ci := 9) (v := .int next__0) (C := RX9) (T := TX9) (N := 45) hx hb hts in_X9 hown hK hP 0 rfl rfl 30 (by decide) lk_123 (fun _ h9 => h9) rfl dX9_advance_2 ?_
      obtain ⟨r_1, hc, hf⟩ := ob1_some hf
      refine g_VI (As := [.int next__0]) (rest := []) (ws' := (w_X9_advance kc a0 a1 a2 a3 a4 a5 a6 a7 a8 a9 a10 a11 a12 a13 a14 a15 a16 a17 a18 a19 a20 a21 a22 a23 a24 a25 a26 a27 a28 thrown loftSize startWind seed draftLoft draftStart draftSeed length textSize start next__0 token value error errorAt number undos text)) ⟨hx, hb, hml, hown, hts⟩ hN hK hP hD hS hA (c_X9_byteAt l D kc N a0 a1 a2 a3 a4 a5 a6 a7 a8 a9 a10 a11 a12 a13 a14 a15 a16 a17 a18 a19 a20 a21 a22 a23 a24 a25 a26 a27 a28 thrown loftSize startWind seed draftLoft draftStart draftSeed length textSize start next__0 token value error errorAt number undos text next__0 r_1 hc) (cwV 1 hts gX9_advance_X9_byteAt rfl rfl rfl (by decide +kernel) ⟨Nat.le_of_ble_eq_true rfl, Nat.le_of_ble_eq_true rfl⟩) [0, 1] [] [0, 1] (by exact ⟨rfl, rfl, by decide, rfl⟩) 0 9 rfl rfl rfl rfl hl.1 rfl (Nat.le_of_ble_eq_true rfl) dX9_advance_5 ⟨Nat.le_refl _, Nat.le_refl _⟩ (fun H locs hP hD hS => ?_)
      refine lv_bipush (v := 32) hx hb dX9_advance_8 (by decide) ?_
      refine lv_icmp_eq (tgt := 26) hx hb dX9_advance_10 (by decide) (fun hc => ?_) (fun hc => ?_)
      · have hf := o_t hc hf
        refine lv_aload_n hx hb dX9_advance_26 rfl (lv_at hl 0 rfl) ?_
        refine lv_dup hx hb dX9_advance_27 rfl ?_
        refine va_get (D := D) (ci := 9) (v := .int next__0) (C := RX9) (T := TX9) (N := 45) hx hb hts in_X9 hown hK hP 0 rfl rfl 30 (by decide) lk_123 (fun _ h9 => h9) rfl dX9_advance_28 ?_
        refine lv_iconst (v := 1) hx hb dX9_advance_31 (by decide) ?_
        refine lv_iadd hx hb dX9_advance_32 ?_
        refine va_put (D := D) (ci := 9) (v := .int (next__0 + 1)) (ty := .int) (C := RX9) (T := TX9) (N := 45) hx hb hts in_X9 tyX9 tyX9_ok nmX9 hown hK hP hD hS 0 rfl rfl 30 (by decide) lk_123 (fun _ h9 => h9) rfl (by decide +kernel) rfl rfl (Nat.le_of_ble_eq_true rfl) dX9_advance_33 (fun H locs hP hD hS => ?_)
        have hP : va_P D vwCl (w_X9_advance kc a0 a1 a2 a3 a4 a5 a6 a7 a8 a9 a10 a11 a12 a13 a14 a15 a16 a17 a18 a19 a20 a21 a22 a23 a24 a25 a26 a27 a28 thrown loftSize startWind seed draftLoft draftStart draftSeed length textSize start (next__0 + 1) token value error errorAt number undos text) H := hP
        have hD : va_D A (w_X9_advance kc a0 a1 a2 a3 a4 a5 a6 a7 a8 a9 a10 a11 a12 a13 a14 a15 a16 a17 a18 a19 a20 a21 a22 a23 a24 a25 a26 a27 a28 thrown loftSize startWind seed draftLoft draftStart draftSeed length textSize start (next__0 + 1) token value error errorAt number undos text) := hD
        refine lv_goto (tgt := 0) hx hb dX9_advance_36 (by decide) ?_
        exact ih _ _ hf hk _ _ _ hP hD hS (lv_sub hl [0] rfl)
      · have hf := o_f hc hf
        refine lv_aload_n hx hb dX9_advance_13 rfl (lv_at hl 0 rfl) ?_
        refine lv_aload_n hx hb dX9_advance_14 rfl (lv_at hl 0 rfl) ?_
        refine va_get (D := D) (ci := 9) (v := .int next__0) (C := RX9) (T := TX9) (N := 45) hx hb hts in_X9 hown hK hP 0 rfl rfl 30 (by decide) lk_123 (fun _ h9 => h9) rfl dX9_advance_15 ?_
        obtain ⟨r_2, hc, hf⟩ := ob1_some hf
        refine g_VI (As := [.int next__0]) (rest := []) (ws' := (w_X9_advance kc a0 a1 a2 a3 a4 a5 a6 a7 a8 a9 a10 a11 a12 a13 a14 a15 a16 a17 a18 a19 a20 a21 a22 a23 a24 a25 a26 a27 a28 thrown loftSize startWind seed draftLoft draftStart draftSeed length textSize start next__0 token value error errorAt number undos text)) ⟨hx, hb, hml, hown, hts⟩ hN hK hP hD hS hA (c_X9_byteAt l D kc N a0 a1 a2 a3 a4 a5 a6 a7 a8 a9 a10 a11 a12 a13 a14 a15 a16 a17 a18 a19 a20 a21 a22 a23 a24 a25 a26 a27 a28 thrown loftSize startWind seed draftLoft draftStart draftSeed length textSize start next__0 token value error errorAt number undos text next__0 r_2 hc) (cwV 1 hts gX9_advance_X9_byteAt rfl rfl rfl (by decide +kernel) ⟨Nat.le_of_ble_eq_true rfl, Nat.le_of_ble_eq_true rfl⟩) [0, 1] [] [0, 1] (by exact ⟨rfl, rfl, by decide, rfl⟩) 0 9 rfl rfl rfl rfl hl.1 rfl (Nat.le_of_ble_eq_true rfl) dX9_advance_18 ⟨Nat.le_refl _, Nat.le_refl _⟩ (fun H locs hP hD hS => ?_)
        refine lv_bipush (v := 10) hx hb dX9_advance_21 (by decide) ?_
        refine lv_icmp_ne (tgt := 39) hx hb dX9_advance_23 (by decide) (fun hc => ?_) (fun hc => ?_)
        · have hf := o_f hc hf
          cases hf
          exact hk _ _ _ hP hD hS (lv_sub hl [0] rfl)
        · have hf := o_t hc hf
          refine lv_aload_n hx hb dX9_advance_26 rfl (lv_at hl 0 rfl) ?_
          refine lv_dup hx hb dX9_advance_27 rfl ?_
          refine va_get (D := D) (ci := 9) (v := .int next__0) (C := RX9) (T := TX9) (N := 45) hx hb hts in_X9 hown hK hP 0 rfl rfl 30 (by decide) lk_123 (fun _ h9 => h9) rfl dX9_advance_28 ?_
          refine lv_iconst (v := 1) hx hb dX9_advance_31 (by decide) ?_
          refine lv_iadd hx hb dX9_advance_32 ?_
          refine va_put (D := D) (ci := 9) (v := .int (next__0 + 1)) (ty := .int) (C := RX9) (T := TX9) (N := 45) hx hb hts in_X9 tyX9 tyX9_ok nmX9 hown hK hP hD hS 0 rfl rfl 30 (by decide) lk_123 (fun _ h9 => h9) rfl (by decide +kernel) rfl rfl (Nat.le_of_ble_eq_true rfl) dX9_advance_33 (fun H locs hP hD hS => ?_)
          have hP : va_P D vwCl (w_X9_advance kc a0 a1 a2 a3 a4 a5 a6 a7 a8 a9 a10 a11 a12 a13 a14 a15 a16 a17 a18 a19 a20 a21 a22 a23 a24 a25 a26 a27 a28 thrown loftSize startWind seed draftLoft draftStart draftSeed length textSize start (next__0 + 1) token value error errorAt number undos text) H := hP
          have hD : va_D A (w_X9_advance kc a0 a1 a2 a3 a4 a5 a6 a7 a8 a9 a10 a11 a12 a13 a14 a15 a16 a17 a18 a19 a20 a21 a22 a23 a24 a25 a26 a27 a28 thrown loftSize startWind seed draftLoft draftStart draftSeed length textSize start (next__0 + 1) token value error errorAt number undos text) := hD
          refine lv_goto (tgt := 0) hx hb dX9_advance_36 (by decide) ?_
          exact ih _ _ hf hk _ _ _ hP hD hS (lv_sub hl [0] rfl)
  obtain ⟨next__0o, hc, hf⟩ := ob1_some hf
  refine L0 N _ _ hc (fun H locs ls hP hD hS hl => ?_) _ _ _ hP hD hS (lv_sub hl [0] rfl)
  refine lv_aload_n hx hb dX9_advance_39 rfl (lv_at hl 0 rfl) ?_
  refine lv_aload_n hx hb dX9_advance_40 rfl (lv_at hl 0 rfl) ?_
  refine va_get (D := D) (ci := 9) (v := .int next__0o) (C := RX9) (T := TX9) (N := 45) hx hb hts in_X9 hown hK hP 0 rfl rfl 30 (by decide) lk_123 (fun _ h9 => h9) rfl dX9_advance_41 ?_
  refine va_put (D := D) (ci := 9) (v := .int next__0o) (ty := .int) (C := RX9) (T := TX9) (N := 45) hx hb hts in_X9 tyX9 tyX9_ok nmX9 hown hK hP hD hS 0 rfl rfl 29 (by decide) lk_130 (fun _ h9 => h9) rfl (by decide +kernel) rfl rfl (Nat.le_of_ble_eq_true rfl) dX9_advance_44 (fun H locs hP hD hS => ?_)
  have hP : va_P D vwCl (w_X9_advance kc a0 a1 a2 a3 a4 a5 a6 a7 a8 a9 a10 a11 a12 a13 a14 a15 a16 a17 a18 a19 a20 a21 a22 a23 a24 a25 a26 a27 a28 thrown loftSize startWind seed draftLoft draftStart draftSeed length textSize next__0o next__0o token value error errorAt number undos text) H := hP
  have hD : va_D A (w_X9_advance kc a0 a1 a2 a3 a4 a5 a6 a7 a8 a9 a10 a11 a12 a13 a14 a15 a16 a17 a18 a19 a20 a21 a22 a23 a24 a25 a26 a27 a28 thrown loftSize startWind seed draftLoft draftStart draftSeed length textSize next__0o next__0o token value error errorAt number undos text) := hD
  refine lv_aload_n hx hb dX9_advance_47 rfl (lv_at hl 0 rfl) ?_
  refine lv_iconst (v := 0) hx hb dX9_advance_48 (by decide) ?_
  refine va_put (D := D) (ci := 9) (v := .int 0) (ty := .int) (C := RX9) (T := TX9) (N := 45) hx hb hts in_X9 tyX9 tyX9_ok nmX9 hown hK hP hD hS 0 rfl rfl 32 (by decide) lk_133 (fun _ h9 => h9) rfl (by decide +kernel) rfl rfl (Nat.le_of_ble_eq_true rfl) dX9_advance_49 (fun H locs hP hD hS => ?_)
  have hP : va_P D vwCl (w_X9_advance kc a0 a1 a2 a3 a4 a5 a6 a7 a8 a9 a10 a11 a12 a13 a14 a15 a16 a17 a18 a19 a20 a21 a22 a23 a24 a25 a26 a27 a28 thrown loftSize startWind seed draftLoft draftStart draftSeed length textSize next__0o next__0o token 0 error errorAt number undos text) H := hP
  have hD : va_D A (w_X9_advance kc a0 a1 a2 a3 a4 a5 a6 a7 a8 a9 a10 a11 a12 a13 a14 a15 a16 a17 a18 a19 a20 a21 a22 a23 a24 a25 a26 a27 a28 thrown loftSize startWind seed draftLoft draftStart draftSeed length textSize next__0o next__0o token 0 error errorAt number undos text) := hD
  refine lv_aload_n hx hb dX9_advance_52 rfl (lv_at hl 0 rfl) ?_
  refine lv_aload_n hx hb dX9_advance_53 rfl (lv_at hl 0 rfl) ?_
  refine va_get (D := D) (ci := 9) (v := .int next__0o) (C := RX9) (T := TX9) (N := 45) hx hb hts in_X9 hown hK hP 0 rfl rfl 30 (by decide) lk_123 (fun _ h9 => h9) rfl dX9_advance_54 ?_
  obtain ⟨r_3, hc, hf⟩ := ob1_some hf
  refine g_VI (As := [.int next__0o]) (rest := []) (ws' := (w_X9_advance kc a0 a1 a2 a3 a4 a5 a6 a7 a8 a9 a10 a11 a12 a13 a14 a15 a16 a17 a18 a19 a20 a21 a22 a23 a24 a25 a26 a27 a28 thrown loftSize startWind seed draftLoft draftStart draftSeed length textSize next__0o next__0o token 0 error errorAt number undos text)) ⟨hx, hb, hml, hown, hts⟩ hN hK hP hD hS hA (c_X9_byteAt l D kc N a0 a1 a2 a3 a4 a5 a6 a7 a8 a9 a10 a11 a12 a13 a14 a15 a16 a17 a18 a19 a20 a21 a22 a23 a24 a25 a26 a27 a28 thrown loftSize startWind seed draftLoft draftStart draftSeed length textSize next__0o next__0o token 0 error errorAt number undos text next__0o r_3 hc) (cwV 1 hts gX9_advance_X9_byteAt rfl rfl rfl (by decide +kernel) ⟨Nat.le_of_ble_eq_true rfl, Nat.le_of_ble_eq_true rfl⟩) [0, 1] [] [0, 1] (by exact ⟨rfl, rfl, by decide, rfl⟩) 0 9 rfl rfl rfl rfl hl.1 rfl (Nat.le_of_ble_eq_true rfl) dX9_advance_57 ⟨Nat.le_refl _, Nat.le_refl _⟩ (fun H locs hP hD hS => ?_)
  refine lv_istore_n (lv' := [(1, .int r_3), (0, .ref a0)]) hx hb dX9_advance_60 rfl hl (by decide) rfl (fun ls hl => ?_)
  refine lv_iload_n hx hb dX9_advance_61 rfl (lv_at hl 0 rfl) ?_
  refine lv_bipush (v := (-2)) hx hb dX9_advance_62 (by decide) ?_
  refine lv_icmp_ne (tgt := 75) hx hb dX9_advance_64 (by decide) (fun hc => ?_) (fun hc => ?_)
  · have hf := o_f hc hf
    refine lv_iload_n hx hb dX9_advance_75 rfl (lv_at hl 0 rfl) ?_
    refine lv_bipush (v := 97) hx hb dX9_advance_76 (by decide) ?_
    refine lv_bipush (v := 122) hx hb dX9_advance_78 (by decide) ?_
    obtain ⟨r_4, hc, hf⟩ := ob1_some hf
    refine g_SZ (As := [.int r_3, .int 97, .int 122]) (rest := []) (ws' := (w_X9_advance kc a0 a1 a2 a3 a4 a5 a6 a7 a8 a9 a10 a11 a12 a13 a14 a15 a16 a17 a18 a19 a20 a21 a22 a23 a24 a25 a26 a27 a28 thrown loftSize startWind seed draftLoft draftStart draftSeed length textSize next__0o next__0o token 0 error errorAt number undos text)) ⟨hx, hb, hml, hown, hts⟩ hN hK hP hD hS hA (c_X9_within l D kc N r_3 97 122 r_4 hc) (va_cwS 3 hts gX9_advance_X9_within rfl rfl rfl (by decide +kernel) ⟨Nat.le_of_ble_eq_true rfl, Nat.le_of_ble_eq_true rfl⟩) [] [0, 1] [0, 1] (by exact ⟨rfl, rfl, by decide, rfl⟩) rfl hl.1 rfl (Nat.le_of_ble_eq_true rfl) dX9_advance_80 ⟨Nat.le_refl _, Nat.le_refl _⟩ (fun H locs hz hP hD hS => ?_)
    have hz_5 := hz
    refine lv_if_eq (tgt := 143) hx hb dX9_advance_83 (by decide) (fun hc => ?_) (fun hc => ?_)
    · have hf := o_t hc hf
      refine lv_iload_n hx hb dX9_advance_143 rfl (lv_at hl 0 rfl) ?_
      refine lv_bipush (v := 48) hx hb dX9_advance_144 (by decide) ?_
      refine lv_bipush (v := 57) hx hb dX9_advance_146 (by decide) ?_
      obtain ⟨r_6, hc, hf⟩ := ob1_some hf
      refine g_SZ (As := [.int r_3, .int 48, .int 57]) (rest := []) (ws' := (w_X9_advance kc a0 a1 a2 a3 a4 a5 a6 a7 a8 a9 a10 a11 a12 a13 a14 a15 a16 a17 a18 a19 a20 a21 a22 a23 a24 a25 a26 a27 a28 thrown loftSize startWind seed draftLoft draftStart draftSeed length textSize next__0o next__0o token 0 error errorAt number undos text)) ⟨hx, hb, hml, hown, hts⟩ hN hK hP hD hS hA (c_X9_within l D kc N r_3 48 57 r_6 hc) (va_cwS 3 hts gX9_advance_X9_within rfl rfl rfl (by decide +kernel) ⟨Nat.le_of_ble_eq_true rfl, Nat.le_of_ble_eq_true rfl⟩) [] [0, 1] [0, 1] (by exact ⟨rfl, rfl, by decide, rfl⟩) rfl hl.1 rfl (Nat.le_of_ble_eq_true rfl) dX9_advance_148 ⟨Nat.le_refl _, Nat.le_refl _⟩ (fun H locs hz hP hD hS => ?_)
      have hz_7 := hz
      refine lv_if_eq (tgt := 253) hx hb dX9_advance_151 (by decide) (fun hc => ?_) (fun hc => ?_)
      · have hf := o_t hc hf
        refine lv_aload_n hx hb dX9_advance_253 rfl (lv_at hl 1 rfl) ?_
        refine lv_dup hx hb dX9_advance_254 rfl ?_
        refine va_get (D := D) (ci := 9) (v := .int next__0o) (C := RX9) (T := TX9) (N := 45) hx hb hts in_X9 hown hK hP 0 rfl rfl 30 (by decide) lk_123 (fun _ h9 => h9) rfl dX9_advance_255 ?_
        refine lv_iconst (v := 1) hx hb dX9_advance_258 (by decide) ?_
        refine lv_iadd hx hb dX9_advance_259 ?_
        refine va_put (D := D) (ci := 9) (v := .int (next__0o + 1)) (ty := .int) (C := RX9) (T := TX9) (N := 45) hx hb hts in_X9 tyX9 tyX9_ok nmX9 hown hK hP hD hS 0 rfl rfl 30 (by decide) lk_123 (fun _ h9 => h9) rfl (by decide +kernel) rfl rfl (Nat.le_of_ble_eq_true rfl) dX9_advance_260 (fun H locs hP hD hS => ?_)
        have hP : va_P D vwCl (w_X9_advance kc a0 a1 a2 a3 a4 a5 a6 a7 a8 a9 a10 a11 a12 a13 a14 a15 a16 a17 a18 a19 a20 a21 a22 a23 a24 a25 a26 a27 a28 thrown loftSize startWind seed draftLoft draftStart draftSeed length textSize next__0o (next__0o + 1) token 0 error errorAt number undos text) H := hP
        have hD : va_D A (w_X9_advance kc a0 a1 a2 a3 a4 a5 a6 a7 a8 a9 a10 a11 a12 a13 a14 a15 a16 a17 a18 a19 a20 a21 a22 a23 a24 a25 a26 a27 a28 thrown loftSize startWind seed draftLoft draftStart draftSeed length textSize next__0o (next__0o + 1) token 0 error errorAt number undos text) := hD
        refine lv_aload_n hx hb dX9_advance_263 rfl (lv_at hl 1 rfl) ?_
        refine lv_iload_n hx hb dX9_advance_264 rfl (lv_at hl 0 rfl) ?_
        refine lv_bipush (v := 59) hx hb dX9_advance_265 (by decide) ?_
        refine lv_icmp_ne (tgt := 274) hx hb dX9_advance_267 (by decide) (fun hc => ?_) (fun hc => ?_)
        · have hf := o_f hc hf
          refine lv_iconst (v := 4) hx hb dX9_advance_274 (by decide) ?_
          refine va_put (D := D) (ci := 9) (v := .int 4) (ty := .int) (C := RX9) (T := TX9) (N := 45) hx hb hts in_X9 tyX9 tyX9_ok nmX9 hown hK hP hD hS 0 rfl rfl 31 (by decide) lk_136 (fun _ h9 => h9) rfl (by decide +kernel) rfl rfl (Nat.le_of_ble_eq_true rfl) dX9_advance_275 (fun H locs hP hD hS => ?_)
          have hP : va_P D vwCl (w_X9_advance kc a0 a1 a2 a3 a4 a5 a6 a7 a8 a9 a10 a11 a12 a13 a14 a15 a16 a17 a18 a19 a20 a21 a22 a23 a24 a25 a26 a27 a28 thrown loftSize startWind seed draftLoft draftStart draftSeed length textSize next__0o (next__0o + 1) 4 0 error errorAt number undos text) H := hP
          have hD : va_D A (w_X9_advance kc a0 a1 a2 a3 a4 a5 a6 a7 a8 a9 a10 a11 a12 a13 a14 a15 a16 a17 a18 a19 a20 a21 a22 a23 a24 a25 a26 a27 a28 thrown loftSize startWind seed draftLoft draftStart draftSeed length textSize next__0o (next__0o + 1) 4 0 error errorAt number undos text) := hD
          cases hf
          exact kR _ _ _ _ hP hD hS dX9_advance_278
        · have hf := o_t hc hf
          refine lv_iconst (v := 3) hx hb dX9_advance_270 (by decide) ?_
          refine lv_goto (tgt := 275) hx hb dX9_advance_271 (by decide) ?_
          refine va_put (D := D) (ci := 9) (v := .int 3) (ty := .int) (C := RX9) (T := TX9) (N := 45) hx hb hts in_X9 tyX9 tyX9_ok nmX9 hown hK hP hD hS 0 rfl rfl 31 (by decide) lk_136 (fun _ h9 => h9) rfl (by decide +kernel) rfl rfl (Nat.le_of_ble_eq_true rfl) dX9_advance_275 (fun H locs hP hD hS => ?_)
          have hP : va_P D vwCl (w_X9_advance kc a0 a1 a2 a3 a4 a5 a6 a7 a8 a9 a10 a11 a12 a13 a14 a15 a16 a17 a18 a19 a20 a21 a22 a23 a24 a25 a26 a27 a28 thrown loftSize startWind seed draftLoft draftStart draftSeed length textSize next__0o (next__0o + 1) 3 0 error errorAt number undos text) H := hP
          have hD : va_D A (w_X9_advance kc a0 a1 a2 a3 a4 a5 a6 a7 a8 a9 a10 a11 a12 a13 a14 a15 a16 a17 a18 a19 a20 a21 a22 a23 a24 a25 a26 a27 a28 thrown loftSize startWind seed draftLoft draftStart draftSeed length textSize next__0o (next__0o + 1) 3 0 error errorAt number undos text) := hD
          cases hf
          exact kR _ _ _ _ hP hD hS dX9_advance_278
      · have hf := o_f hc hf
        have L154 : ∀ (n : Nat) (next__154 : Int32) (value_154 : Int32) (next__154o : Int32) (value_154o : Int32), f_X9_advance_154 N textSize text next__0o n next__154 value_154 = some (next__154o, value_154o) → (∀ (H : Heap) (locs : List Loc) (ls : Array Slot), va_P D vwCl (w_X9_advance kc a0 a1 a2 a3 a4 a5 a6 a7 a8 a9 a10 a11 a12 a13 a14 a15 a16 a17 a18 a19 a20 a21 a22 a23 a24 a25 a26 a27 a28 thrown loftSize startWind seed draftLoft draftStart draftSeed length textSize next__0o next__154o token value_154o error errorAt number undos text) H → va_D A (w_X9_advance kc a0 a1 a2 a3 a4 a5 a6 a7 a8 a9 a10 a11 a12 a13 a14 a15 a16 a17 a18 a19 a20 a21 a22 a23 a24 a25 a26 a27 a28 thrown loftSize startWind seed draftLoft draftStart draftSeed length textSize next__0o next__154o token value_154o error errorAt number undos text) → va_S A s.heap H locs → lv_has ls 2 [(0, .ref a0), (1, .int r_3)] → W p l e ({ frames := 1, cells := 0, slots := 0, locals := 22 }) s m (([.ref a0] : List Value).toArray) below meth c H locs 0 0 Q (F0 m 228 ls [])) → ∀ (H : Heap) (locs : List Loc) (ls : Array Slot), va_P D vwCl (w_X9_advance kc a0 a1 a2 a3 a4 a5 a6 a7 a8 a9 a10 a11 a12 a13 a14 a15 a16 a17 a18 a19 a20 a21 a22 a23 a24 a25 a26 a27 a28 thrown loftSize startWind seed draftLoft draftStart draftSeed length textSize next__0o next__154 token value_154 error errorAt number undos text) H → va_D A (w_X9_advance kc a0 a1 a2 a3 a4 a5 a6 a7 a8 a9 a10 a11 a12 a13 a14 a15 a16 a17 a18 a19 a20 a21 a22 a23 a24 a25 a26 a27 a28 thrown loftSize startWind seed draftLoft draftStart draftSeed length textSize next__0o next__154 token value_154 error errorAt number undos text) → va_S A s.heap H locs → lv_has ls 2 [(0, .ref a0), (1, .int r_3)] → W p l e ({ frames := 1, cells := 0, slots := 0, locals := 22 }) s m (([.ref a0] : List Value).toArray) below meth c H locs 0 0 Q (F0 m 154 ls []) := by
          intro n
          induction n with
          | zero => intro _ _ _ _ hf; rw [f_X9_advance_154.eq_1] at hf; cases hf
          | succ n ih =>
            intro next__154 value_154 next__154o value_154o hf hk H locs ls hP hD hS hl
            rw [f_X9_advance_154.eq_2] at hf
            refine lv_aload_n hx hb dX9_advance_154 rfl (lv_at hl 0 rfl) ?_
            refine lv_aload_n hx hb dX9_advance_155 rfl (lv_at hl 0 rfl) ?_
            refine va_get (D := D) (ci := 9) (v := .int next__154) (C := RX9) (T := TX9) (N := 45) hx hb hts in_X9 hown hK hP 0 rfl rfl 30 (by decide) lk_123 (fun _ h9 => h9) rfl dX9_advance_156 ?_
            obtain ⟨r_8, hc, hf⟩ := ob1_some hf
            refine g_VI (As := [.int next__154]) (rest := []) (ws' := (w_X9_advance kc a0 a1 a2 a3 a4 a5 a6 a7 a8 a9 a10 a11 a12 a13 a14 a15 a16 a17 a18 a19 a20 a21 a22 a23 a24 a25 a26 a27 a28 thrown loftSize startWind seed draftLoft draftStart draftSeed length textSize next__0o next__154 token value_154 error errorAt number undos text)) ⟨hx, hb, hml, hown, hts⟩ hN hK hP hD hS hA (c_X9_byteAt l D kc N a0 a1 a2 a3 a4 a5 a6 a7 a8 a9 a10 a11 a12 a13 a14 a15 a16 a17 a18 a19 a20 a21 a22 a23 a24 a25 a26 a27 a28 thrown loftSize startWind seed draftLoft draftStart draftSeed length textSize next__0o next__154 token value_154 error errorAt number undos text next__154 r_8 hc) (cwV 1 hts gX9_advance_X9_byteAt rfl rfl rfl (by decide +kernel) ⟨Nat.le_of_ble_eq_true rfl, Nat.le_of_ble_eq_true rfl⟩) [0, 1] [] [0, 1] (by exact ⟨rfl, rfl, by decide, rfl⟩) 0 9 rfl rfl rfl rfl hl.1 rfl (Nat.le_of_ble_eq_true rfl) dX9_advance_159 ⟨Nat.le_refl _, Nat.le_refl _⟩ (fun H locs hP hD hS => ?_)
            refine lv_bipush (v := 48) hx hb dX9_advance_162 (by decide) ?_
            refine lv_bipush (v := 57) hx hb dX9_advance_164 (by decide) ?_
            obtain ⟨r_9, hc, hf⟩ := ob1_some hf
            refine g_SZ (As := [.int r_8, .int 48, .int 57]) (rest := []) (ws' := (w_X9_advance kc a0 a1 a2 a3 a4 a5 a6 a7 a8 a9 a10 a11 a12 a13 a14 a15 a16 a17 a18 a19 a20 a21 a22 a23 a24 a25 a26 a27 a28 thrown loftSize startWind seed draftLoft draftStart draftSeed length textSize next__0o next__154 token value_154 error errorAt number undos text)) ⟨hx, hb, hml, hown, hts⟩ hN hK hP hD hS hA (c_X9_within l D kc N r_8 48 57 r_9 hc) (va_cwS 3 hts gX9_advance_X9_within rfl rfl rfl (by decide +kernel) ⟨Nat.le_of_ble_eq_true rfl, Nat.le_of_ble_eq_true rfl⟩) [] [0, 1] [0, 1] (by exact ⟨rfl, rfl, by decide, rfl⟩) rfl hl.1 rfl (Nat.le_of_ble_eq_true rfl) dX9_advance_166 ⟨Nat.le_refl _, Nat.le_refl _⟩ (fun H locs hz hP hD hS => ?_)
            have hz_10 := hz
            refine lv_if_eq (tgt := 228) hx hb dX9_advance_169 (by decide) (fun hc => ?_) (fun hc => ?_)
            · have hf := o_t hc hf
              cases hf
              exact hk _ _ _ hP hD hS (lv_sub hl [0, 1] rfl)
            · have hf := o_f hc hf
              refine lv_aload_n hx hb dX9_advance_172 rfl (lv_at hl 0 rfl) ?_
              refine lv_aload_n hx hb dX9_advance_173 rfl (lv_at hl 0 rfl) ?_
              refine va_get (D := D) (ci := 9) (v := .int next__154) (C := RX9) (T := TX9) (N := 45) hx hb hts in_X9 hown hK hP 0 rfl rfl 30 (by decide) lk_123 (fun _ h9 => h9) rfl dX9_advance_174 ?_
              refine lv_aload_n hx hb dX9_advance_177 rfl (lv_at hl 0 rfl) ?_
              refine va_get (D := D) (ci := 9) (v := .int next__0o) (C := RX9) (T := TX9) (N := 45) hx hb hts in_X9 hown hK hP 0 rfl rfl 29 (by decide) lk_130 (fun _ h9 => h9) rfl dX9_advance_178 ?_
              refine lv_isub hx hb dX9_advance_181 ?_
              refine lv_iconst (v := 4) hx hb dX9_advance_182 (by decide) ?_
              refine lv_icmp_ge (tgt := 208) hx hb dX9_advance_183 (by decide) (fun hc => ?_) (fun hc => ?_)
              · have hf := o_t hc hf
                refine lv_aload_n hx hb dX9_advance_208 rfl (lv_at hl 0 rfl) ?_
                refine va_get (D := D) (ci := 9) (v := .int value_154) (C := RX9) (T := TX9) (N := 45) hx hb hts in_X9 hown hK hP 0 rfl rfl 32 (by decide) lk_133 (fun _ h9 => h9) rfl dX9_advance_209 ?_
                refine va_put (D := D) (ci := 9) (v := .int value_154) (ty := .int) (C := RX9) (T := TX9) (N := 45) hx hb hts in_X9 tyX9 tyX9_ok nmX9 hown hK hP hD hS 0 rfl rfl 32 (by decide) lk_133 (fun _ h9 => h9) rfl (by decide +kernel) rfl rfl (Nat.le_of_ble_eq_true rfl) dX9_advance_212 (fun H locs hP hD hS => ?_)
                have hP : va_P D vwCl (w_X9_advance kc a0 a1 a2 a3 a4 a5 a6 a7 a8 a9 a10 a11 a12 a13 a14 a15 a16 a17 a18 a19 a20 a21 a22 a23 a24 a25 a26 a27 a28 thrown loftSize startWind seed draftLoft draftStart draftSeed length textSize next__0o next__154 token value_154 error errorAt number undos text) H := hP
                have hD : va_D A (w_X9_advance kc a0 a1 a2 a3 a4 a5 a6 a7 a8 a9 a10 a11 a12 a13 a14 a15 a16 a17 a18 a19 a20 a21 a22 a23 a24 a25 a26 a27 a28 thrown loftSize startWind seed draftLoft draftStart draftSeed length textSize next__0o next__154 token value_154 error errorAt number undos text) := hD
                refine lv_aload_n hx hb dX9_advance_215 rfl (lv_at hl 0 rfl) ?_
                refine lv_dup hx hb dX9_advance_216 rfl ?_
                refine va_get (D := D) (ci := 9) (v := .int next__154) (C := RX9) (T := TX9) (N := 45) hx hb hts in_X9 hown hK hP 0 rfl rfl 30 (by decide) lk_123 (fun _ h9 => h9) rfl dX9_advance_217 ?_
                refine lv_iconst (v := 1) hx hb dX9_advance_220 (by decide) ?_
                refine lv_iadd hx hb dX9_advance_221 ?_
                refine va_put (D := D) (ci := 9) (v := .int (next__154 + 1)) (ty := .int) (C := RX9) (T := TX9) (N := 45) hx hb hts in_X9 tyX9 tyX9_ok nmX9 hown hK hP hD hS 0 rfl rfl 30 (by decide) lk_123 (fun _ h9 => h9) rfl (by decide +kernel) rfl rfl (Nat.le_of_ble_eq_true rfl) dX9_advance_222 (fun H locs hP hD hS => ?_)
                have hP : va_P D vwCl (w_X9_advance kc a0 a1 a2 a3 a4 a5 a6 a7 a8 a9 a10 a11 a12 a13 a14 a15 a16 a17 a18 a19 a20 a21 a22 a23 a24 a25 a26 a27 a28 thrown loftSize startWind seed draftLoft draftStart draftSeed length textSize next__0o (next__154 + 1) token value_154 error errorAt number undos text) H := hP
                have hD : va_D A (w_X9_advance kc a0 a1 a2 a3 a4 a5 a6 a7 a8 a9 a10 a11 a12 a13 a14 a15 a16 a17 a18 a19 a20 a21 a22 a23 a24 a25 a26 a27 a28 thrown loftSize startWind seed draftLoft draftStart draftSeed length textSize next__0o (next__154 + 1) token value_154 error errorAt number undos text) := hD
                refine lv_goto (tgt := 154) hx hb dX9_advance_225 (by decide) ?_
                exact ih _ _ _ _ hf hk _ _ _ hP hD hS (lv_sub hl [0, 1] rfl)
              · have hf := o_f hc hf
                refine lv_bipush (v := 10) hx hb dX9_advance_186 (by decide) ?_
                refine lv_aload_n hx hb dX9_advance_188 rfl (lv_at hl 0 rfl) ?_
                refine va_get (D := D) (ci := 9) (v := .int value_154) (C := RX9) (T := TX9) (N := 45) hx hb hts in_X9 hown hK hP 0 rfl rfl 32 (by decide) lk_133 (fun _ h9 => h9) rfl dX9_advance_189 ?_
                refine lv_imul hx hb dX9_advance_192 ?_
                refine lv_aload_n hx hb dX9_advance_193 rfl (lv_at hl 0 rfl) ?_
                refine lv_aload_n hx hb dX9_advance_194 rfl (lv_at hl 0 rfl) ?_
                refine va_get (D := D) (ci := 9) (v := .int next__154) (C := RX9) (T := TX9) (N := 45) hx hb hts in_X9 hown hK hP 0 rfl rfl 30 (by decide) lk_123 (fun _ h9 => h9) rfl dX9_advance_195 ?_
                obtain ⟨r_11, hc, hf⟩ := ob1_some hf
                refine g_VI (As := [.int next__154]) (rest := [.int (10 * value_154), .ref a0]) (ws' := (w_X9_advance kc a0 a1 a2 a3 a4 a5 a6 a7 a8 a9 a10 a11 a12 a13 a14 a15 a16 a17 a18 a19 a20 a21 a22 a23 a24 a25 a26 a27 a28 thrown loftSize startWind seed draftLoft draftStart draftSeed length textSize next__0o next__154 token value_154 error errorAt number undos text)) ⟨hx, hb, hml, hown, hts⟩ hN hK hP hD hS hA (c_X9_byteAt l D kc N a0 a1 a2 a3 a4 a5 a6 a7 a8 a9 a10 a11 a12 a13 a14 a15 a16 a17 a18 a19 a20 a21 a22 a23 a24 a25 a26 a27 a28 thrown loftSize startWind seed draftLoft draftStart draftSeed length textSize next__0o next__154 token value_154 error errorAt number undos text next__154 r_11 hc) (cwV 1 hts gX9_advance_X9_byteAt rfl rfl rfl (by decide +kernel) ⟨Nat.le_of_ble_eq_true rfl, Nat.le_of_ble_eq_true rfl⟩) [0, 1] [] [0, 1] (by exact ⟨rfl, rfl, by decide, rfl⟩) 0 9 rfl rfl rfl rfl hl.1 rfl (Nat.le_of_ble_eq_true rfl) dX9_advance_198 ⟨Nat.le_refl _, Nat.le_refl _⟩ (fun H locs hP hD hS => ?_)
                refine lv_iadd hx hb dX9_advance_201 ?_
                refine lv_bipush (v := 48) hx hb dX9_advance_202 (by decide) ?_
                refine lv_isub hx hb dX9_advance_204 ?_
                refine lv_goto (tgt := 212) hx hb dX9_advance_205 (by decide) ?_
                refine va_put (D := D) (ci := 9) (v := .int (((10 * value_154) + r_11) - 48)) (ty := .int) (C := RX9) (T := TX9) (N := 45) hx hb hts in_X9 tyX9 tyX9_ok nmX9 hown hK hP hD hS 0 rfl rfl 32 (by decide) lk_133 (fun _ h9 => h9) rfl (by decide +kernel) rfl rfl (Nat.le_of_ble_eq_true rfl) dX9_advance_212 (fun H locs hP hD hS => ?_)
                have hP : va_P D vwCl (w_X9_advance kc a0 a1 a2 a3 a4 a5 a6 a7 a8 a9 a10 a11 a12 a13 a14 a15 a16 a17 a18 a19 a20 a21 a22 a23 a24 a25 a26 a27 a28 thrown loftSize startWind seed draftLoft draftStart draftSeed length textSize next__0o next__154 token (((10 * value_154) + r_11) - 48) error errorAt number undos text) H := hP
                have hD : va_D A (w_X9_advance kc a0 a1 a2 a3 a4 a5 a6 a7 a8 a9 a10 a11 a12 a13 a14 a15 a16 a17 a18 a19 a20 a21 a22 a23 a24 a25 a26 a27 a28 thrown loftSize startWind seed draftLoft draftStart draftSeed length textSize next__0o next__154 token (((10 * value_154) + r_11) - 48) error errorAt number undos text) := hD
                refine lv_aload_n hx hb dX9_advance_215 rfl (lv_at hl 0 rfl) ?_
                refine lv_dup hx hb dX9_advance_216 rfl ?_
                refine va_get (D := D) (ci := 9) (v := .int next__154) (C := RX9) (T := TX9) (N := 45) hx hb hts in_X9 hown hK hP 0 rfl rfl 30 (by decide) lk_123 (fun _ h9 => h9) rfl dX9_advance_217 ?_
                refine lv_iconst (v := 1) hx hb dX9_advance_220 (by decide) ?_
                refine lv_iadd hx hb dX9_advance_221 ?_
                refine va_put (D := D) (ci := 9) (v := .int (next__154 + 1)) (ty := .int) (C := RX9) (T := TX9) (N := 45) hx hb hts in_X9 tyX9 tyX9_ok nmX9 hown hK hP hD hS 0 rfl rfl 30 (by decide) lk_123 (fun _ h9 => h9) rfl (by decide +kernel) rfl rfl (Nat.le_of_ble_eq_true rfl) dX9_advance_222 (fun H locs hP hD hS => ?_)
                have hP : va_P D vwCl (w_X9_advance kc a0 a1 a2 a3 a4 a5 a6 a7 a8 a9 a10 a11 a12 a13 a14 a15 a16 a17 a18 a19 a20 a21 a22 a23 a24 a25 a26 a27 a28 thrown loftSize startWind seed draftLoft draftStart draftSeed length textSize next__0o (next__154 + 1) token (((10 * value_154) + r_11) - 48) error errorAt number undos text) H := hP
                have hD : va_D A (w_X9_advance kc a0 a1 a2 a3 a4 a5 a6 a7 a8 a9 a10 a11 a12 a13 a14 a15 a16 a17 a18 a19 a20 a21 a22 a23 a24 a25 a26 a27 a28 thrown loftSize startWind seed draftLoft draftStart draftSeed length textSize next__0o (next__154 + 1) token (((10 * value_154) + r_11) - 48) error errorAt number undos text) := hD
                refine lv_goto (tgt := 154) hx hb dX9_advance_225 (by decide) ?_
                exact ih _ _ _ _ hf hk _ _ _ hP hD hS (lv_sub hl [0, 1] rfl)
        obtain ⟨next__154o, value_154o, hc, hf⟩ := ob2_some hf
        refine L154 N _ _ _ _ hc (fun H locs ls hP hD hS hl => ?_) _ _ _ hP hD hS (lv_sub hl [1, 0] rfl)
        refine lv_aload_n hx hb dX9_advance_228 rfl (lv_at hl 0 rfl) ?_
        refine lv_aload_n hx hb dX9_advance_229 rfl (lv_at hl 0 rfl) ?_
        refine va_get (D := D) (ci := 9) (v := .int next__154o) (C := RX9) (T := TX9) (N := 45) hx hb hts in_X9 hown hK hP 0 rfl rfl 30 (by decide) lk_123 (fun _ h9 => h9) rfl dX9_advance_230 ?_
        refine lv_aload_n hx hb dX9_advance_233 rfl (lv_at hl 0 rfl) ?_
        refine va_get (D := D) (ci := 9) (v := .int next__0o) (C := RX9) (T := TX9) (N := 45) hx hb hts in_X9 hown hK hP 0 rfl rfl 29 (by decide) lk_130 (fun _ h9 => h9) rfl dX9_advance_234 ?_
        refine lv_isub hx hb dX9_advance_237 ?_
        refine lv_iconst (v := 4) hx hb dX9_advance_238 (by decide) ?_
        refine lv_icmp_le (tgt := 246) hx hb dX9_advance_239 (by decide) (fun hc => ?_) (fun hc => ?_)
        · have hf := o_t hc hf
          refine lv_iconst (v := 2) hx hb dX9_advance_246 (by decide) ?_
          refine va_put (D := D) (ci := 9) (v := .int 2) (ty := .int) (C := RX9) (T := TX9) (N := 45) hx hb hts in_X9 tyX9 tyX9_ok nmX9 hown hK hP hD hS 0 rfl rfl 31 (by decide) lk_136 (fun _ h9 => h9) rfl (by decide +kernel) rfl rfl (Nat.le_of_ble_eq_true rfl) dX9_advance_247 (fun H locs hP hD hS => ?_)
          have hP : va_P D vwCl (w_X9_advance kc a0 a1 a2 a3 a4 a5 a6 a7 a8 a9 a10 a11 a12 a13 a14 a15 a16 a17 a18 a19 a20 a21 a22 a23 a24 a25 a26 a27 a28 thrown loftSize startWind seed draftLoft draftStart draftSeed length textSize next__0o next__154o 2 value_154o error errorAt number undos text) H := hP
          have hD : va_D A (w_X9_advance kc a0 a1 a2 a3 a4 a5 a6 a7 a8 a9 a10 a11 a12 a13 a14 a15 a16 a17 a18 a19 a20 a21 a22 a23 a24 a25 a26 a27 a28 thrown loftSize startWind seed draftLoft draftStart draftSeed length textSize next__0o next__154o 2 value_154o error errorAt number undos text) := hD
          refine lv_goto (tgt := 278) hx hb dX9_advance_250 (by decide) ?_
          cases hf
          exact kR _ _ _ _ hP hD hS dX9_advance_278
        · have hf := o_f hc hf
          refine lv_iconst (v := 4) hx hb dX9_advance_242 (by decide) ?_
          refine lv_goto (tgt := 247) hx hb dX9_advance_243 (by decide) ?_
          refine va_put (D := D) (ci := 9) (v := .int 4) (ty := .int) (C := RX9) (T := TX9) (N := 45) hx hb hts in_X9 tyX9 tyX9_ok nmX9 hown hK hP hD hS 0 rfl rfl 31 (by decide) lk_136 (fun _ h9 => h9) rfl (by decide +kernel) rfl rfl (Nat.le_of_ble_eq_true rfl) dX9_advance_247 (fun H locs hP hD hS => ?_)
          have hP : va_P D vwCl (w_X9_advance kc a0 a1 a2 a3 a4 a5 a6 a7 a8 a9 a10 a11 a12 a13 a14 a15 a16 a17 a18 a19 a20 a21 a22 a23 a24 a25 a26 a27 a28 thrown loftSize startWind seed draftLoft draftStart draftSeed length textSize next__0o next__154o 4 value_154o error errorAt number undos text) H := hP
          have hD : va_D A (w_X9_advance kc a0 a1 a2 a3 a4 a5 a6 a7 a8 a9 a10 a11 a12 a13 a14 a15 a16 a17 a18 a19 a20 a21 a22 a23 a24 a25 a26 a27 a28 thrown loftSize startWind seed draftLoft draftStart draftSeed length textSize next__0o next__154o 4 value_154o error errorAt number undos text) := hD
          refine lv_goto (tgt := 278) hx hb dX9_advance_250 (by decide) ?_
          cases hf
          exact kR _ _ _ _ hP hD hS dX9_advance_278
    · have hf := o_f hc hf
      have L86 : ∀ (value_f86 : Int32) (n : Nat) (next__86 : Int32) (next__86o : Int32), f_X9_advance_86 N textSize text n next__86 = some next__86o → (∀ (H : Heap) (locs : List Loc) (ls : Array Slot), va_P D vwCl (w_X9_advance kc a0 a1 a2 a3 a4 a5 a6 a7 a8 a9 a10 a11 a12 a13 a14 a15 a16 a17 a18 a19 a20 a21 a22 a23 a24 a25 a26 a27 a28 thrown loftSize startWind seed draftLoft draftStart draftSeed length textSize next__0o next__86o token value_f86 error errorAt number undos text) H → va_D A (w_X9_advance kc a0 a1 a2 a3 a4 a5 a6 a7 a8 a9 a10 a11 a12 a13 a14 a15 a16 a17 a18 a19 a20 a21 a22 a23 a24 a25 a26 a27 a28 thrown loftSize startWind seed draftLoft draftStart draftSeed length textSize next__0o next__86o token value_f86 error errorAt number undos text) → va_S A s.heap H locs → lv_has ls 2 [(0, .ref a0), (1, .int r_3)] → W p l e ({ frames := 1, cells := 0, slots := 0, locals := 22 }) s m (([.ref a0] : List Value).toArray) below meth c H locs 0 0 Q (F0 m 117 ls [])) → ∀ (H : Heap) (locs : List Loc) (ls : Array Slot), va_P D vwCl (w_X9_advance kc a0 a1 a2 a3 a4 a5 a6 a7 a8 a9 a10 a11 a12 a13 a14 a15 a16 a17 a18 a19 a20 a21 a22 a23 a24 a25 a26 a27 a28 thrown loftSize startWind seed draftLoft draftStart draftSeed length textSize next__0o next__86 token value_f86 error errorAt number undos text) H → va_D A (w_X9_advance kc a0 a1 a2 a3 a4 a5 a6 a7 a8 a9 a10 a11 a12 a13 a14 a15 a16 a17 a18 a19 a20 a21 a22 a23 a24 a25 a26 a27 a28 thrown loftSize startWind seed draftLoft draftStart draftSeed length textSize next__0o next__86 token value_f86 error errorAt number undos text) → va_S A s.heap H locs → lv_has ls 2 [(0, .ref a0), (1, .int r_3)] → W p l e ({ frames := 1, cells := 0, slots := 0, locals := 22 }) s m (([.ref a0] : List Value).toArray) below meth c H locs 0 0 Q (F0 m 86 ls []) := by
        intro value_f86 n
        induction n with
        | zero => intro _ _ hf; rw [f_X9_advance_86.eq_1] at hf; cases hf
        | succ n ih =>
          intro next__86 next__86o hf hk H locs ls hP hD hS hl
          rw [f_X9_advance_86.eq_2] at hf
          refine lv_aload_n hx hb dX9_advance_86 rfl (lv_at hl 0 rfl) ?_
          refine lv_aload_n hx hb dX9_advance_87 rfl (lv_at hl 0 rfl) ?_
          refine va_get (D := D) (ci := 9) (v := .int next__86) (C := RX9) (T := TX9) (N := 45) hx hb hts in_X9 hown hK hP 0 rfl rfl 30 (by decide) lk_123 (fun _ h9 => h9) rfl dX9_advance_88 ?_
          obtain ⟨r_12, hc, hf⟩ := ob1_some hf
          refine g_VI (As := [.int next__86]) (rest := []) (ws' := (w_X9_advance kc a0 a1 a2 a3 a4 a5 a6 a7 a8 a9 a10 a11 a12 a13 a14 a15 a16 a17 a18 a19 a20 a21 a22 a23 a24 a25 a26 a27 a28 thrown loftSize startWind seed draftLoft draftStart draftSeed length textSize next__0o next__86 token value_f86 error errorAt number undos text)) ⟨hx, hb, hml, hown, hts⟩ hN hK hP hD hS hA (c_X9_byteAt l D kc N a0 a1 a2 a3 a4 a5 a6 a7 a8 a9 a10 a11 a12 a13 a14 a15 a16 a17 a18 a19 a20 a21 a22 a23 a24 a25 a26 a27 a28 thrown loftSize startWind seed draftLoft draftStart draftSeed length textSize next__0o next__86 token value_f86 error errorAt number undos text next__86 r_12 hc) (cwV 1 hts gX9_advance_X9_byteAt rfl rfl rfl (by decide +kernel) ⟨Nat.le_of_ble_eq_true rfl, Nat.le_of_ble_eq_true rfl⟩) [0, 1] [] [0, 1] (by exact ⟨rfl, rfl, by decide, rfl⟩) 0 9 rfl rfl rfl rfl hl.1 rfl (Nat.le_of_ble_eq_true rfl) dX9_advance_91 ⟨Nat.le_refl _, Nat.le_refl _⟩ (fun H locs hP hD hS => ?_)
          refine lv_bipush (v := 97) hx hb dX9_advance_94 (by decide) ?_
          refine lv_bipush (v := 122) hx hb dX9_advance_96 (by decide) ?_
          obtain ⟨r_13, hc, hf⟩ := ob1_some hf
          refine g_SZ (As := [.int r_12, .int 97, .int 122]) (rest := []) (ws' := (w_X9_advance kc a0 a1 a2 a3 a4 a5 a6 a7 a8 a9 a10 a11 a12 a13 a14 a15 a16 a17 a18 a19 a20 a21 a22 a23 a24 a25 a26 a27 a28 thrown loftSize startWind seed draftLoft draftStart draftSeed length textSize next__0o next__86 token value_f86 error errorAt number undos text)) ⟨hx, hb, hml, hown, hts⟩ hN hK hP hD hS hA (c_X9_within l D kc N r_12 97 122 r_13 hc) (va_cwS 3 hts gX9_advance_X9_within rfl rfl rfl (by decide +kernel) ⟨Nat.le_of_ble_eq_true rfl, Nat.le_of_ble_eq_true rfl⟩) [] [0, 1] [0, 1] (by exact ⟨rfl, rfl, by decide, rfl⟩) rfl hl.1 rfl (Nat.le_of_ble_eq_true rfl) dX9_advance_98 ⟨Nat.le_refl _, Nat.le_refl _⟩ (fun H locs hz hP hD hS => ?_)
          have hz_14 := hz
          refine lv_if_eq (tgt := 117) hx hb dX9_advance_101 (by decide) (fun hc => ?_) (fun hc => ?_)
          · have hf := o_t hc hf
            cases hf
            exact hk _ _ _ hP hD hS (lv_sub hl [0, 1] rfl)
          · have hf := o_f hc hf
            refine lv_aload_n hx hb dX9_advance_104 rfl (lv_at hl 0 rfl) ?_
            refine lv_dup hx hb dX9_advance_105 rfl ?_
            refine va_get (D := D) (ci := 9) (v := .int next__86) (C := RX9) (T := TX9) (N := 45) hx hb hts in_X9 hown hK hP 0 rfl rfl 30 (by decide) lk_123 (fun _ h9 => h9) rfl dX9_advance_106 ?_
            refine lv_iconst (v := 1) hx hb dX9_advance_109 (by decide) ?_
            refine lv_iadd hx hb dX9_advance_110 ?_
            refine va_put (D := D) (ci := 9) (v := .int (next__86 + 1)) (ty := .int) (C := RX9) (T := TX9) (N := 45) hx hb hts in_X9 tyX9 tyX9_ok nmX9 hown hK hP hD hS 0 rfl rfl 30 (by decide) lk_123 (fun _ h9 => h9) rfl (by decide +kernel) rfl rfl (Nat.le_of_ble_eq_true rfl) dX9_advance_111 (fun H locs hP hD hS => ?_)
            have hP : va_P D vwCl (w_X9_advance kc a0 a1 a2 a3 a4 a5 a6 a7 a8 a9 a10 a11 a12 a13 a14 a15 a16 a17 a18 a19 a20 a21 a22 a23 a24 a25 a26 a27 a28 thrown loftSize startWind seed draftLoft draftStart draftSeed length textSize next__0o (next__86 + 1) token value_f86 error errorAt number undos text) H := hP
            have hD : va_D A (w_X9_advance kc a0 a1 a2 a3 a4 a5 a6 a7 a8 a9 a10 a11 a12 a13 a14 a15 a16 a17 a18 a19 a20 a21 a22 a23 a24 a25 a26 a27 a28 thrown loftSize startWind seed draftLoft draftStart draftSeed length textSize next__0o (next__86 + 1) token value_f86 error errorAt number undos text) := hD
            refine lv_goto (tgt := 86) hx hb dX9_advance_114 (by decide) ?_
            exact ih _ _ hf hk _ _ _ hP hD hS (lv_sub hl [0, 1] rfl)
      obtain ⟨next__86o, hc, hf⟩ := ob1_some hf
      refine L86 0 N _ _ hc (fun H locs ls hP hD hS hl => ?_) _ _ _ hP hD hS (lv_sub hl [1, 0] rfl)
      refine lv_aload_n hx hb dX9_advance_117 rfl (lv_at hl 0 rfl) ?_
      refine lv_aload_n hx hb dX9_advance_118 rfl (lv_at hl 0 rfl) ?_
      refine va_get (D := D) (ci := 9) (v := .int next__86o) (C := RX9) (T := TX9) (N := 45) hx hb hts in_X9 hown hK hP 0 rfl rfl 30 (by decide) lk_123 (fun _ h9 => h9) rfl dX9_advance_119 ?_
      refine lv_aload_n hx hb dX9_advance_122 rfl (lv_at hl 0 rfl) ?_
      refine va_get (D := D) (ci := 9) (v := .int next__0o) (C := RX9) (T := TX9) (N := 45) hx hb hts in_X9 hown hK hP 0 rfl rfl 29 (by decide) lk_130 (fun _ h9 => h9) rfl dX9_advance_123 ?_
      refine lv_isub hx hb dX9_advance_126 ?_
      refine lv_bipush (v := 8) hx hb dX9_advance_127 (by decide) ?_
      refine lv_icmp_le (tgt := 136) hx hb dX9_advance_129 (by decide) (fun hc => ?_) (fun hc => ?_)
      · have hf := o_t hc hf
        refine lv_iconst (v := 1) hx hb dX9_advance_136 (by decide) ?_
        refine va_put (D := D) (ci := 9) (v := .int 1) (ty := .int) (C := RX9) (T := TX9) (N := 45) hx hb hts in_X9 tyX9 tyX9_ok nmX9 hown hK hP hD hS 0 rfl rfl 31 (by decide) lk_136 (fun _ h9 => h9) rfl (by decide +kernel) rfl rfl (Nat.le_of_ble_eq_true rfl) dX9_advance_137 (fun H locs hP hD hS => ?_)
        have hP : va_P D vwCl (w_X9_advance kc a0 a1 a2 a3 a4 a5 a6 a7 a8 a9 a10 a11 a12 a13 a14 a15 a16 a17 a18 a19 a20 a21 a22 a23 a24 a25 a26 a27 a28 thrown loftSize startWind seed draftLoft draftStart draftSeed length textSize next__0o next__86o 1 0 error errorAt number undos text) H := hP
        have hD : va_D A (w_X9_advance kc a0 a1 a2 a3 a4 a5 a6 a7 a8 a9 a10 a11 a12 a13 a14 a15 a16 a17 a18 a19 a20 a21 a22 a23 a24 a25 a26 a27 a28 thrown loftSize startWind seed draftLoft draftStart draftSeed length textSize next__0o next__86o 1 0 error errorAt number undos text) := hD
        refine lv_goto (tgt := 278) hx hb dX9_advance_140 (by decide) ?_
        cases hf
        exact kR _ _ _ _ hP hD hS dX9_advance_278
      · have hf := o_f hc hf
        refine lv_iconst (v := 4) hx hb dX9_advance_132 (by decide) ?_
        refine lv_goto (tgt := 137) hx hb dX9_advance_133 (by decide) ?_
        refine va_put (D := D) (ci := 9) (v := .int 4) (ty := .int) (C := RX9) (T := TX9) (N := 45) hx hb hts in_X9 tyX9 tyX9_ok nmX9 hown hK hP hD hS 0 rfl rfl 31 (by decide) lk_136 (fun _ h9 => h9) rfl (by decide +kernel) rfl rfl (Nat.le_of_ble_eq_true rfl) dX9_advance_137 (fun H locs hP hD hS => ?_)
        have hP : va_P D vwCl (w_X9_advance kc a0 a1 a2 a3 a4 a5 a6 a7 a8 a9 a10 a11 a12 a13 a14 a15 a16 a17 a18 a19 a20 a21 a22 a23 a24 a25 a26 a27 a28 thrown loftSize startWind seed draftLoft draftStart draftSeed length textSize next__0o next__86o 4 0 error errorAt number undos text) H := hP
        have hD : va_D A (w_X9_advance kc a0 a1 a2 a3 a4 a5 a6 a7 a8 a9 a10 a11 a12 a13 a14 a15 a16 a17 a18 a19 a20 a21 a22 a23 a24 a25 a26 a27 a28 thrown loftSize startWind seed draftLoft draftStart draftSeed length textSize next__0o next__86o 4 0 error errorAt number undos text) := hD
        refine lv_goto (tgt := 278) hx hb dX9_advance_140 (by decide) ?_
        cases hf
        exact kR _ _ _ _ hP hD hS dX9_advance_278
  · have hf := o_t hc hf
    refine lv_aload_n hx hb dX9_advance_67 rfl (lv_at hl 1 rfl) ?_
    refine lv_iconst (v := 0) hx hb dX9_advance_68 (by decide) ?_
    refine va_put (D := D) (ci := 9) (v := .int 0) (ty := .int) (C := RX9) (T := TX9) (N := 45) hx hb hts in_X9 tyX9 tyX9_ok nmX9 hown hK hP hD hS 0 rfl rfl 31 (by decide) lk_136 (fun _ h9 => h9) rfl (by decide +kernel) rfl rfl (Nat.le_of_ble_eq_true rfl) dX9_advance_69 (fun H locs hP hD hS => ?_)
    have hP : va_P D vwCl (w_X9_advance kc a0 a1 a2 a3 a4 a5 a6 a7 a8 a9 a10 a11 a12 a13 a14 a15 a16 a17 a18 a19 a20 a21 a22 a23 a24 a25 a26 a27 a28 thrown loftSize startWind seed draftLoft draftStart draftSeed length textSize next__0o next__0o 0 0 error errorAt number undos text) H := hP
    have hD : va_D A (w_X9_advance kc a0 a1 a2 a3 a4 a5 a6 a7 a8 a9 a10 a11 a12 a13 a14 a15 a16 a17 a18 a19 a20 a21 a22 a23 a24 a25 a26 a27 a28 thrown loftSize startWind seed draftLoft draftStart draftSeed length textSize next__0o next__0o 0 0 error errorAt number undos text) := hD
    refine lv_goto (tgt := 278) hx hb dX9_advance_72 (by decide) ?_
    cases hf
    exact kR _ _ _ _ hP hD hS dX9_advance_278
abbrev w_X9_fails (kc : Nat → ClassId) (a0 a1 a2 a3 a4 a5 a6 a7 a8 a9 a10 a11 a12 a13 a14 a15 a16 a17 a18 a19 a20 a21 a22 a23 a24 a25 a26 a27 a28 : Nat) (thrown : Int32) (loftSize : Int32) (startWind : Int32) (seed : Int32) (draftLoft : Int32) (draftStart : Int32) (draftSeed : Int32) (length : Int32) (textSize : Int32) (start : Int32) (next_ : Int32) (token : Int32) (value : Int32) (error : Int32) (errorAt : Int32) (number : Int32) (undos : Int32) : va_W := [(a0, .inr (9, [.int thrown, .ref a1, .ref a2, .ref a3, .ref a4, .ref a5, .ref a6, .ref a7, .ref a8, .ref a9, .ref a10, .ref a11, .ref a12, .ref a13, .ref a14, .ref a15, .ref a16, .ref a17, .ref a18, .ref a19, .int loftSize, .int startWind, .int seed, .int draftLoft, .int draftStart, .int draftSeed, .ref a20, .int length, .int textSize, .int start, .int next_, .int token, .int value, .int error, .int errorAt, .int number, .ref a21, .ref a22, .ref a23, .ref a24, .ref a25, .int undos, .ref a26, .ref a27, .ref a28]))]
set_option maxHeartbeats 4000000 in
set_option maxRecDepth 100000 in
theorem c_X9_fails (l : Launch) (D : va_G) (kc : Nat → ClassId) (N : Nat) (a0 a1 a2 a3 a4 a5 a6 a7 a8 a9 a10 a11 a12 a13 a14 a15 a16 a17 a18 a19 a20 a21 a22 a23 a24 a25 a26 a27 a28 : Nat) (thrown : Int32) (loftSize : Int32) (startWind : Int32) (seed : Int32) (draftLoft : Int32) (draftStart : Int32) (draftSeed : Int32) (length : Int32) (textSize : Int32) (start : Int32) (next_ : Int32) (token : Int32) (value : Int32) (error : Int32) (errorAt : Int32) (number : Int32) (undos : Int32) (x1 : Int32) (r_ : Int32) (error' : Int32) (errorAt' : Int32) (hf : f_X9_fails N start error errorAt x1 = some (r_, error', errorAt')) : MZ l yX9_fails wsX9_fails ({ frames := 0, cells := 0, slots := 0, locals := 0 }) D kc [.ref a0, .int x1] (w_X9_fails kc a0 a1 a2 a3 a4 a5 a6 a7 a8 a9 a10 a11 a12 a13 a14 a15 a16 a17 a18 a19 a20 a21 a22 a23 a24 a25 a26 a27 a28 thrown loftSize startWind seed draftLoft draftStart draftSeed length textSize start next_ token value error errorAt number undos) (w_X9_fails kc a0 a1 a2 a3 a4 a5 a6 a7 a8 a9 a10 a11 a12 a13 a14 a15 a16 a17 a18 a19 a20 a21 a22 a23 a24 a25 a26 a27 a28 thrown loftSize startWind seed draftLoft draftStart draftSeed length textSize start next_ token value error' errorAt' number undos) r_ := by
  refine gM_Z (cc := cX9_fails) (maxL := 2) (by decide) rfl (Nat.le_of_ble_eq_true rfl) ?_
  intro p e s m below meth c A ls Q hx hb hml hown hts hN hK hP hD hA hl kR
  have hS : va_S A s.heap s.heap [] := va_S.rf
  have hl : lv_has ls 2 [(0, .ref a0), (1, .int x1)] := hl
  have in_X9 : ∀ w ∈ u_ws RX9 TX9 45, w ∈ wsX9_fails := by decide +kernel
  have lk_152 := hts (.fieldLink RX9 152 "BalloonMailModel" "error" "I") (by decide +kernel)
  have lk_130 := hts (.fieldLink RX9 130 "BalloonMailModel" "start" "I") (by decide +kernel)
  have lk_75 := hts (.fieldLink RX9 75 "BalloonMailModel" "errorAt" "I") (by decide +kernel)
  unfold f_X9_fails at hf
  refine lv_aload_n hx hb dX9_fails_0 rfl (lv_at hl 0 rfl) ?_
  refine va_get (D := D) (ci := 9) (v := .int error) (C := RX9) (T := TX9) (N := 45) hx hb hts in_X9 hown hK hP 0 rfl rfl 33 (by decide) lk_152 (fun _ h9 => h9) rfl dX9_fails_1 ?_
  refine lv_if_ne (tgt := 20) hx hb dX9_fails_4 (by decide) (fun hc => ?_) (fun hc => ?_)
  · have hf := o_f hc hf
    refine lv_iconst (v := 0) hx hb dX9_fails_20 (by decide) ?_
    cases hf
    exact kR _ _ _ _ (Or.inl rfl) hP hD hS dX9_fails_21
  · have hf := o_t hc hf
    refine lv_aload_n hx hb dX9_fails_7 rfl (lv_at hl 0 rfl) ?_
    refine lv_iload_n hx hb dX9_fails_8 rfl (lv_at hl 1 rfl) ?_
    refine va_put (D := D) (ci := 9) (v := .int x1) (ty := .int) (C := RX9) (T := TX9) (N := 45) hx hb hts in_X9 tyX9 tyX9_ok nmX9 hown hK hP hD hS 0 rfl rfl 33 (by decide) lk_152 (fun _ h9 => h9) rfl (by decide +kernel) rfl rfl (Nat.le_of_ble_eq_true rfl) dX9_fails_9 (fun H locs hP hD hS => ?_)
    have hP : va_P D vwCl (w_X9_fails kc a0 a1 a2 a3 a4 a5 a6 a7 a8 a9 a10 a11 a12 a13 a14 a15 a16 a17 a18 a19 a20 a21 a22 a23 a24 a25 a26 a27 a28 thrown loftSize startWind seed draftLoft draftStart draftSeed length textSize start next_ token value x1 errorAt number undos) H := hP
    have hD : va_D A (w_X9_fails kc a0 a1 a2 a3 a4 a5 a6 a7 a8 a9 a10 a11 a12 a13 a14 a15 a16 a17 a18 a19 a20 a21 a22 a23 a24 a25 a26 a27 a28 thrown loftSize startWind seed draftLoft draftStart draftSeed length textSize start next_ token value x1 errorAt number undos) := hD
    refine lv_aload_n hx hb dX9_fails_12 rfl (lv_at hl 0 rfl) ?_
    refine lv_aload_n hx hb dX9_fails_13 rfl (lv_at hl 0 rfl) ?_
    refine va_get (D := D) (ci := 9) (v := .int start) (C := RX9) (T := TX9) (N := 45) hx hb hts in_X9 hown hK hP 0 rfl rfl 29 (by decide) lk_130 (fun _ h9 => h9) rfl dX9_fails_14 ?_
    refine va_put (D := D) (ci := 9) (v := .int start) (ty := .int) (C := RX9) (T := TX9) (N := 45) hx hb hts in_X9 tyX9 tyX9_ok nmX9 hown hK hP hD hS 0 rfl rfl 34 (by decide) lk_75 (fun _ h9 => h9) rfl (by decide +kernel) rfl rfl (Nat.le_of_ble_eq_true rfl) dX9_fails_17 (fun H locs hP hD hS => ?_)
    have hP : va_P D vwCl (w_X9_fails kc a0 a1 a2 a3 a4 a5 a6 a7 a8 a9 a10 a11 a12 a13 a14 a15 a16 a17 a18 a19 a20 a21 a22 a23 a24 a25 a26 a27 a28 thrown loftSize startWind seed draftLoft draftStart draftSeed length textSize start next_ token value x1 start number undos) H := hP
    have hD : va_D A (w_X9_fails kc a0 a1 a2 a3 a4 a5 a6 a7 a8 a9 a10 a11 a12 a13 a14 a15 a16 a17 a18 a19 a20 a21 a22 a23 a24 a25 a26 a27 a28 thrown loftSize startWind seed draftLoft draftStart draftSeed length textSize start next_ token value x1 start number undos) := hD
    refine lv_iconst (v := 0) hx hb dX9_fails_20 (by decide) ?_
    cases hf
    exact kR _ _ _ _ (Or.inl rfl) hP hD hS dX9_fails_21
abbrev w_X9_takes (kc : Nat → ClassId) (a0 a1 a2 a3 a4 a5 a6 a7 a8 a9 a10 a11 a12 a13 a14 a15 a16 a17 a18 a19 a20 a21 a22 a23 a24 a25 a26 a27 a28 : Nat) (thrown : Int32) (loftSize : Int32) (startWind : Int32) (seed : Int32) (draftLoft : Int32) (draftStart : Int32) (draftSeed : Int32) (length : Int32) (textSize : Int32) (start : Int32) (next_ : Int32) (token : Int32) (value : Int32) (error : Int32) (errorAt : Int32) (number : Int32) (undos : Int32) (text : Nat → Int32) : va_W := [(a0, .inr (9, [.int thrown, .ref a1, .ref a2, .ref a3, .ref a4, .ref a5, .ref a6, .ref a7, .ref a8, .ref a9, .ref a10, .ref a11, .ref a12, .ref a13, .ref a14, .ref a15, .ref a16, .ref a17, .ref a18, .ref a19, .int loftSize, .int startWind, .int seed, .int draftLoft, .int draftStart, .int draftSeed, .ref a20, .int length, .int textSize, .int start, .int next_, .int token, .int value, .int error, .int errorAt, .int number, .ref a21, .ref a22, .ref a23, .ref a24, .ref a25, .int undos, .ref a26, .ref a27, .ref a28])), (a20, .inl (kc 0, 900, .inl text))]
set_option maxHeartbeats 4000000 in
set_option maxRecDepth 100000 in
theorem c_X9_takes (l : Launch) (D : va_G) (kc : Nat → ClassId) (N : Nat) (a0 a1 a2 a3 a4 a5 a6 a7 a8 a9 a10 a11 a12 a13 a14 a15 a16 a17 a18 a19 a20 a21 a22 a23 a24 a25 a26 a27 a28 : Nat) (thrown : Int32) (loftSize : Int32) (startWind : Int32) (seed : Int32) (draftLoft : Int32) (draftStart : Int32) (draftSeed : Int32) (length : Int32) (textSize : Int32) (start : Int32) (next_ : Int32) (token : Int32) (value : Int32) (error : Int32) (errorAt : Int32) (number : Int32) (undos : Int32) (text : Nat → Int32) (x1 : Int32) (x2 : Int32) (r_ : Int32) (start' : Int32) (next_' : Int32) (token' : Int32) (value' : Int32) (error' : Int32) (errorAt' : Int32) (number' : Int32) (hf : f_X9_takes N textSize start next_ token value error errorAt number text x1 x2 = some (r_, start', next_', token', value', error', errorAt', number')) : MZ l yX9_takes wsX9_takes ({ frames := 2, cells := 0, slots := 0, locals := 43 }) D kc [.ref a0, .int x1, .int x2] (w_X9_takes kc a0 a1 a2 a3 a4 a5 a6 a7 a8 a9 a10 a11 a12 a13 a14 a15 a16 a17 a18 a19 a20 a21 a22 a23 a24 a25 a26 a27 a28 thrown loftSize startWind seed draftLoft draftStart draftSeed length textSize start next_ token value error errorAt number undos text) (w_X9_takes kc a0 a1 a2 a3 a4 a5 a6 a7 a8 a9 a10 a11 a12 a13 a14 a15 a16 a17 a18 a19 a20 a21 a22 a23 a24 a25 a26 a27 a28 thrown loftSize startWind seed draftLoft draftStart draftSeed length textSize start' next_' token' value' error' errorAt' number' undos text) r_ := by
  refine gM_Z (cc := cX9_takes) (maxL := 3) (by decide) rfl (Nat.le_of_ble_eq_true rfl) ?_
  intro p e s m below meth c A ls Q hx hb hml hown hts hN hK hP hD hA hl kR
  have hS : va_S A s.heap s.heap [] := va_S.rf
  have hl : lv_has ls 3 [(0, .ref a0), (1, .int x1), (2, .int x2)] := hl
  have in_X9 : ∀ w ∈ u_ws RX9 TX9 45, w ∈ wsX9_takes := by decide +kernel
  have lk_136 := hts (.fieldLink RX9 136 "BalloonMailModel" "token" "I") (by decide +kernel)
  have lk_133 := hts (.fieldLink RX9 133 "BalloonMailModel" "value" "I") (by decide +kernel)
  have lk_159 := hts (.fieldLink RX9 159 "BalloonMailModel" "number" "I") (by decide +kernel)
  unfold f_X9_takes at hf
  refine lv_aload_n hx hb dX9_takes_0 rfl (lv_at hl 0 rfl) ?_
  refine va_get (D := D) (ci := 9) (v := .int token) (C := RX9) (T := TX9) (N := 45) hx hb hts in_X9 hown hK hP 0 rfl rfl 31 (by decide) lk_136 (fun _ h9 => h9) rfl dX9_takes_1 ?_
  refine lv_iconst (v := 2) hx hb dX9_takes_4 (by decide) ?_
  refine lv_icmp_eq (tgt := 14) hx hb dX9_takes_5 (by decide) (fun hc => ?_) (fun hc => ?_)
  · have hf := o_t hc hf
    refine lv_aload_n hx hb dX9_takes_14 rfl (lv_at hl 0 rfl) ?_
    refine va_get (D := D) (ci := 9) (v := .int value) (C := RX9) (T := TX9) (N := 45) hx hb hts in_X9 hown hK hP 0 rfl rfl 32 (by decide) lk_133 (fun _ h9 => h9) rfl dX9_takes_15 ?_
    refine lv_iload_n hx hb dX9_takes_18 rfl (lv_at hl 1 rfl) ?_
    refine lv_iload_n hx hb dX9_takes_19 rfl (lv_at hl 2 rfl) ?_
    obtain ⟨r_1, hc, hf⟩ := ob1_some hf
    refine g_SZ (As := [.int value, .int x1, .int x2]) (rest := []) (ws' := (w_X9_takes kc a0 a1 a2 a3 a4 a5 a6 a7 a8 a9 a10 a11 a12 a13 a14 a15 a16 a17 a18 a19 a20 a21 a22 a23 a24 a25 a26 a27 a28 thrown loftSize startWind seed draftLoft draftStart draftSeed length textSize start next_ token value error errorAt number undos text)) ⟨hx, hb, hml, hown, hts⟩ hN hK hP hD hS hA (c_X9_within l D kc N value x1 x2 r_1 hc) (va_cwS 3 hts gX9_takes_X9_within rfl rfl rfl (by decide +kernel) ⟨Nat.le_of_ble_eq_true rfl, Nat.le_of_ble_eq_true rfl⟩) [] [0, 1] [0, 1] (by exact ⟨rfl, rfl, by decide, rfl⟩) rfl hl.1 rfl (Nat.le_of_ble_eq_true rfl) dX9_takes_20 ⟨Nat.le_refl _, Nat.le_refl _⟩ (fun H locs hz hP hD hS => ?_)
    have hz_2 := hz
    refine lv_if_ne (tgt := 32) hx hb dX9_takes_23 (by decide) (fun hc => ?_) (fun hc => ?_)
    · have hf := o_f hc hf
      refine lv_aload_n hx hb dX9_takes_32 rfl (lv_at hl 0 rfl) ?_
      refine lv_aload_n hx hb dX9_takes_33 rfl (lv_at hl 0 rfl) ?_
      refine va_get (D := D) (ci := 9) (v := .int value) (C := RX9) (T := TX9) (N := 45) hx hb hts in_X9 hown hK hP 0 rfl rfl 32 (by decide) lk_133 (fun _ h9 => h9) rfl dX9_takes_34 ?_
      refine va_put (D := D) (ci := 9) (v := .int value) (ty := .int) (C := RX9) (T := TX9) (N := 45) hx hb hts in_X9 tyX9 tyX9_ok nmX9 hown hK hP hD hS 0 rfl rfl 35 (by decide) lk_159 (fun _ h9 => h9) rfl (by decide +kernel) rfl rfl (Nat.le_of_ble_eq_true rfl) dX9_takes_37 (fun H locs hP hD hS => ?_)
      have hP : va_P D vwCl (w_X9_takes kc a0 a1 a2 a3 a4 a5 a6 a7 a8 a9 a10 a11 a12 a13 a14 a15 a16 a17 a18 a19 a20 a21 a22 a23 a24 a25 a26 a27 a28 thrown loftSize startWind seed draftLoft draftStart draftSeed length textSize start next_ token value error errorAt value undos text) H := hP
      have hD : va_D A (w_X9_takes kc a0 a1 a2 a3 a4 a5 a6 a7 a8 a9 a10 a11 a12 a13 a14 a15 a16 a17 a18 a19 a20 a21 a22 a23 a24 a25 a26 a27 a28 thrown loftSize startWind seed draftLoft draftStart draftSeed length textSize start next_ token value error errorAt value undos text) := hD
      refine lv_aload_n hx hb dX9_takes_40 rfl (lv_at hl 0 rfl) ?_
      obtain ⟨start_3, next__4, token_5, value_6, hc, hf⟩ := ob4_some hf
      refine g_VV (As := []) (rest := []) (ws' := (w_X9_takes kc a0 a1 a2 a3 a4 a5 a6 a7 a8 a9 a10 a11 a12 a13 a14 a15 a16 a17 a18 a19 a20 a21 a22 a23 a24 a25 a26 a27 a28 thrown loftSize startWind seed draftLoft draftStart draftSeed length textSize start_3 next__4 token_5 value_6 error errorAt value undos text)) ⟨hx, hb, hml, hown, hts⟩ hN hK hP hD hS hA (c_X9_advance l D kc N a0 a1 a2 a3 a4 a5 a6 a7 a8 a9 a10 a11 a12 a13 a14 a15 a16 a17 a18 a19 a20 a21 a22 a23 a24 a25 a26 a27 a28 thrown loftSize startWind seed draftLoft draftStart draftSeed length textSize start next_ token value error errorAt value undos text start_3 next__4 token_5 value_6 hc) (cwV 0 hts gX9_takes_X9_advance rfl rfl rfl (by decide +kernel) ⟨Nat.le_of_ble_eq_true rfl, Nat.le_of_ble_eq_true rfl⟩) [0, 1] [] [0, 1] (by exact ⟨rfl, rfl, by decide, rfl⟩) 0 9 rfl rfl rfl rfl hl.1 rfl (Nat.le_of_ble_eq_true rfl) dX9_takes_41 ⟨Nat.le_refl _, Nat.le_refl _⟩ (fun H locs hP hD hS => ?_)
      refine lv_iconst (v := 1) hx hb dX9_takes_44 (by decide) ?_
      cases hf
      exact kR _ _ _ _ (Or.inr rfl) hP hD hS dX9_takes_45
    · have hf := o_t hc hf
      refine lv_aload_n hx hb dX9_takes_26 rfl (lv_at hl 0 rfl) ?_
      refine lv_iconst (v := 3) hx hb dX9_takes_27 (by decide) ?_
      obtain ⟨r_7, error_8, errorAt_9, hc, hf⟩ := ob3_some hf
      refine g_VZ (As := [.int 3]) (rest := []) (ws' := (w_X9_takes kc a0 a1 a2 a3 a4 a5 a6 a7 a8 a9 a10 a11 a12 a13 a14 a15 a16 a17 a18 a19 a20 a21 a22 a23 a24 a25 a26 a27 a28 thrown loftSize startWind seed draftLoft draftStart draftSeed length textSize start next_ token value error_8 errorAt_9 number undos text)) ⟨hx, hb, hml, hown, hts⟩ hN hK hP hD hS hA (c_X9_fails l D kc N a0 a1 a2 a3 a4 a5 a6 a7 a8 a9 a10 a11 a12 a13 a14 a15 a16 a17 a18 a19 a20 a21 a22 a23 a24 a25 a26 a27 a28 thrown loftSize startWind seed draftLoft draftStart draftSeed length textSize start next_ token value error errorAt number undos 3 r_7 error_8 errorAt_9 hc) (cwV 1 hts gX9_takes_X9_fails rfl rfl rfl (by decide +kernel) ⟨Nat.le_of_ble_eq_true rfl, Nat.le_of_ble_eq_true rfl⟩) [0] [1] [1, 0] (by exact ⟨rfl, rfl, by decide, rfl⟩) 0 9 rfl rfl rfl rfl hl.1 rfl (Nat.le_of_ble_eq_true rfl) dX9_takes_28 ⟨Nat.le_refl _, Nat.le_refl _⟩ (fun H locs hz hP hD hS => ?_)
      have hz_10 := hz
      cases hf
      exact kR _ _ _ _ hz_10 hP hD hS dX9_takes_31
  · have hf := o_f hc hf
    refine lv_aload_n hx hb dX9_takes_8 rfl (lv_at hl 0 rfl) ?_
    refine lv_iconst (v := 1) hx hb dX9_takes_9 (by decide) ?_
    obtain ⟨r_11, error_12, errorAt_13, hc, hf⟩ := ob3_some hf
    refine g_VZ (As := [.int 1]) (rest := []) (ws' := (w_X9_takes kc a0 a1 a2 a3 a4 a5 a6 a7 a8 a9 a10 a11 a12 a13 a14 a15 a16 a17 a18 a19 a20 a21 a22 a23 a24 a25 a26 a27 a28 thrown loftSize startWind seed draftLoft draftStart draftSeed length textSize start next_ token value error_12 errorAt_13 number undos text)) ⟨hx, hb, hml, hown, hts⟩ hN hK hP hD hS hA (c_X9_fails l D kc N a0 a1 a2 a3 a4 a5 a6 a7 a8 a9 a10 a11 a12 a13 a14 a15 a16 a17 a18 a19 a20 a21 a22 a23 a24 a25 a26 a27 a28 thrown loftSize startWind seed draftLoft draftStart draftSeed length textSize start next_ token value error errorAt number undos 1 r_11 error_12 errorAt_13 hc) (cwV 1 hts gX9_takes_X9_fails rfl rfl rfl (by decide +kernel) ⟨Nat.le_of_ble_eq_true rfl, Nat.le_of_ble_eq_true rfl⟩) [0] [1] [1, 0] (by exact ⟨rfl, rfl, by decide, rfl⟩) 0 9 rfl rfl rfl rfl hl.1 rfl (Nat.le_of_ble_eq_true rfl) dX9_takes_10 ⟨Nat.le_refl _, Nat.le_refl _⟩ (fun H locs hz hP hD hS => ?_)
    have hz_14 := hz
    cases hf
    exact kR _ _ _ _ hz_14 hP hD hS dX9_takes_13
abbrev w_X9_opens (kc : Nat → ClassId) (a0 a1 a2 a3 a4 a5 a6 a7 a8 a9 a10 a11 a12 a13 a14 a15 a16 a17 a18 a19 a20 a21 a22 a23 a24 a25 a26 a27 a28 : Nat) (thrown : Int32) (loftSize : Int32) (startWind : Int32) (seed : Int32) (draftLoft : Int32) (draftStart : Int32) (draftSeed : Int32) (length : Int32) (textSize : Int32) (start : Int32) (next_ : Int32) (token : Int32) (value : Int32) (error : Int32) (errorAt : Int32) (number : Int32) (undos : Int32) (text : Nat → Int32) : va_W := [(a0, .inr (9, [.int thrown, .ref a1, .ref a2, .ref a3, .ref a4, .ref a5, .ref a6, .ref a7, .ref a8, .ref a9, .ref a10, .ref a11, .ref a12, .ref a13, .ref a14, .ref a15, .ref a16, .ref a17, .ref a18, .ref a19, .int loftSize, .int startWind, .int seed, .int draftLoft, .int draftStart, .int draftSeed, .ref a20, .int length, .int textSize, .int start, .int next_, .int token, .int value, .int error, .int errorAt, .int number, .ref a21, .ref a22, .ref a23, .ref a24, .ref a25, .int undos, .ref a26, .ref a27, .ref a28])), (a20, .inl (kc 0, 900, .inl text))]
set_option maxHeartbeats 4000000 in
set_option maxRecDepth 100000 in
theorem c_X9_opens (l : Launch) (D : va_G) (kc : Nat → ClassId) (N : Nat) (a0 a1 a2 a3 a4 a5 a6 a7 a8 a9 a10 a11 a12 a13 a14 a15 a16 a17 a18 a19 a20 a21 a22 a23 a24 a25 a26 a27 a28 : Nat) (thrown : Int32) (loftSize : Int32) (startWind : Int32) (seed : Int32) (draftLoft : Int32) (draftStart : Int32) (draftSeed : Int32) (length : Int32) (textSize : Int32) (start : Int32) (next_ : Int32) (token : Int32) (value : Int32) (error : Int32) (errorAt : Int32) (number : Int32) (undos : Int32) (text : Nat → Int32) (x1 : Int32) (r_ : Int32) (start' : Int32) (next_' : Int32) (token' : Int32) (value' : Int32) (error' : Int32) (errorAt' : Int32) (hf : f_X9_opens N textSize start next_ token value error errorAt text x1 = some (r_, start', next_', token', value', error', errorAt')) : MZ l yX9_opens wsX9_opens ({ frames := 2, cells := 0, slots := 0, locals := 43 }) D kc [.ref a0, .int x1] (w_X9_opens kc a0 a1 a2 a3 a4 a5 a6 a7 a8 a9 a10 a11 a12 a13 a14 a15 a16 a17 a18 a19 a20 a21 a22 a23 a24 a25 a26 a27 a28 thrown loftSize startWind seed draftLoft draftStart draftSeed length textSize start next_ token value error errorAt number undos text) (w_X9_opens kc a0 a1 a2 a3 a4 a5 a6 a7 a8 a9 a10 a11 a12 a13 a14 a15 a16 a17 a18 a19 a20 a21 a22 a23 a24 a25 a26 a27 a28 thrown loftSize startWind seed draftLoft draftStart draftSeed length textSize start' next_' token' value' error' errorAt' number undos text) r_ := by
  refine gM_Z (cc := cX9_opens) (maxL := 2) (by decide) rfl (Nat.le_of_ble_eq_true rfl) ?_
  intro p e s m below meth c A ls Q hx hb hml hown hts hN hK hP hD hA hl kR
  have hS : va_S A s.heap s.heap [] := va_S.rf
  have hl : lv_has ls 2 [(0, .ref a0), (1, .int x1)] := hl
  unfold f_X9_opens at hf
  refine lv_iload_n hx hb dX9_opens_0 rfl (lv_at hl 1 rfl) ?_
  refine lv_if_ne (tgt := 10) hx hb dX9_opens_1 (by decide) (fun hc => ?_) (fun hc => ?_)
  · have hf := o_f hc hf
    refine lv_aload_n hx hb dX9_opens_10 rfl (lv_at hl 0 rfl) ?_
    obtain ⟨start_1, next__2, token_3, value_4, hc, hf⟩ := ob4_some hf
    refine g_VV (As := []) (rest := []) (ws' := (w_X9_opens kc a0 a1 a2 a3 a4 a5 a6 a7 a8 a9 a10 a11 a12 a13 a14 a15 a16 a17 a18 a19 a20 a21 a22 a23 a24 a25 a26 a27 a28 thrown loftSize startWind seed draftLoft draftStart draftSeed length textSize start_1 next__2 token_3 value_4 error errorAt number undos text)) ⟨hx, hb, hml, hown, hts⟩ hN hK hP hD hS hA (c_X9_advance l D kc N a0 a1 a2 a3 a4 a5 a6 a7 a8 a9 a10 a11 a12 a13 a14 a15 a16 a17 a18 a19 a20 a21 a22 a23 a24 a25 a26 a27 a28 thrown loftSize startWind seed draftLoft draftStart draftSeed length textSize start next_ token value error errorAt number undos text start_1 next__2 token_3 value_4 hc) (cwV 0 hts gX9_opens_X9_advance rfl rfl rfl (by decide +kernel) ⟨Nat.le_of_ble_eq_true rfl, Nat.le_of_ble_eq_true rfl⟩) [0, 1] [] [0, 1] (by exact ⟨rfl, rfl, by decide, rfl⟩) 0 9 rfl rfl rfl rfl hl.1 rfl (Nat.le_of_ble_eq_true rfl) dX9_opens_11 ⟨Nat.le_refl _, Nat.le_refl _⟩ (fun H locs hP hD hS => ?_)
    refine lv_iconst (v := 1) hx hb dX9_opens_14 (by decide) ?_
    cases hf
    exact kR _ _ _ _ (Or.inr rfl) hP hD hS dX9_opens_15
  · have hf := o_t hc hf
    refine lv_aload_n hx hb dX9_opens_4 rfl (lv_at hl 0 rfl) ?_
    refine lv_iconst (v := 4) hx hb dX9_opens_5 (by decide) ?_
    obtain ⟨r_5, error_6, errorAt_7, hc, hf⟩ := ob3_some hf
    refine g_VZ (As := [.int 4]) (rest := []) (ws' := (w_X9_opens kc a0 a1 a2 a3 a4 a5 a6 a7 a8 a9 a10 a11 a12 a13 a14 a15 a16 a17 a18 a19 a20 a21 a22 a23 a24 a25 a26 a27 a28 thrown loftSize startWind seed draftLoft draftStart draftSeed length textSize start next_ token value error_6 errorAt_7 number undos text)) ⟨hx, hb, hml, hown, hts⟩ hN hK hP hD hS hA (c_X9_fails l D kc N a0 a1 a2 a3 a4 a5 a6 a7 a8 a9 a10 a11 a12 a13 a14 a15 a16 a17 a18 a19 a20 a21 a22 a23 a24 a25 a26 a27 a28 thrown loftSize startWind seed draftLoft draftStart draftSeed length textSize start next_ token value error errorAt number undos 4 r_5 error_6 errorAt_7 hc) (cwV 1 hts gX9_opens_X9_fails rfl rfl rfl (by decide +kernel) ⟨Nat.le_of_ble_eq_true rfl, Nat.le_of_ble_eq_true rfl⟩) [0] [1] [1, 0] (by exact ⟨rfl, rfl, by decide, rfl⟩) 0 9 rfl rfl rfl rfl hl.1 rfl (Nat.le_of_ble_eq_true rfl) dX9_opens_6 ⟨Nat.le_refl _, Nat.le_refl _⟩ (fun H locs hz hP hD hS => ?_)
    have hz_8 := hz
    cases hf
    exact kR _ _ _ _ hz_8 hP hD hS dX9_opens_9
abbrev w_X9_single (kc : Nat → ClassId) (a0 a1 a2 a3 a4 a5 a6 a7 a8 a9 a10 a11 a12 a13 a14 a15 a16 a17 a18 a19 a20 a21 a22 a23 a24 a25 a26 a27 a28 : Nat) (thrown : Int32) (loftSize : Int32) (startWind : Int32) (seed : Int32) (draftLoft : Int32) (draftStart : Int32) (draftSeed : Int32) (length : Int32) (textSize : Int32) (start : Int32) (next_ : Int32) (token : Int32) (value : Int32) (error : Int32) (errorAt : Int32) (number : Int32) (undos : Int32) (text : Nat → Int32) : va_W := [(a0, .inr (9, [.int thrown, .ref a1, .ref a2, .ref a3, .ref a4, .ref a5, .ref a6, .ref a7, .ref a8, .ref a9, .ref a10, .ref a11, .ref a12, .ref a13, .ref a14, .ref a15, .ref a16, .ref a17, .ref a18, .ref a19, .int loftSize, .int startWind, .int seed, .int draftLoft, .int draftStart, .int draftSeed, .ref a20, .int length, .int textSize, .int start, .int next_, .int token, .int value, .int error, .int errorAt, .int number, .ref a21, .ref a22, .ref a23, .ref a24, .ref a25, .int undos, .ref a26, .ref a27, .ref a28])), (a20, .inl (kc 0, 900, .inl text))]
set_option maxHeartbeats 4000000 in
set_option maxRecDepth 100000 in
theorem c_X9_single (l : Launch) (D : va_G) (kc : Nat → ClassId) (N : Nat) (a0 a1 a2 a3 a4 a5 a6 a7 a8 a9 a10 a11 a12 a13 a14 a15 a16 a17 a18 a19 a20 a21 a22 a23 a24 a25 a26 a27 a28 : Nat) (thrown : Int32) (loftSize : Int32) (startWind : Int32) (seed : Int32) (draftLoft : Int32) (draftStart : Int32) (draftSeed : Int32) (length : Int32) (textSize : Int32) (start : Int32) (next_ : Int32) (token : Int32) (value : Int32) (error : Int32) (errorAt : Int32) (number : Int32) (undos : Int32) (text : Nat → Int32) (x1 : Int32) (x2 : Int32) (r_ : Int32) (start' : Int32) (next_' : Int32) (token' : Int32) (value' : Int32) (error' : Int32) (errorAt' : Int32) (number' : Int32) (hf : f_X9_single N textSize start next_ token value error errorAt number text x1 x2 = some (r_, start', next_', token', value', error', errorAt', number')) : MI l yX9_single wsX9_single ({ frames := 3, cells := 0, slots := 0, locals := 65 }) D kc [.ref a0, .int x1, .int x2] (w_X9_single kc a0 a1 a2 a3 a4 a5 a6 a7 a8 a9 a10 a11 a12 a13 a14 a15 a16 a17 a18 a19 a20 a21 a22 a23 a24 a25 a26 a27 a28 thrown loftSize startWind seed draftLoft draftStart draftSeed length textSize start next_ token value error errorAt number undos text) (w_X9_single kc a0 a1 a2 a3 a4 a5 a6 a7 a8 a9 a10 a11 a12 a13 a14 a15 a16 a17 a18 a19 a20 a21 a22 a23 a24 a25 a26 a27 a28 thrown loftSize startWind seed draftLoft draftStart draftSeed length textSize start' next_' token' value' error' errorAt' number' undos text) r_ := by
  refine gM_I (cc := cX9_single) (maxL := 3) (by decide) rfl (Nat.le_of_ble_eq_true rfl) ?_
  intro p e s m below meth c A ls Q hx hb hml hown hts hN hK hP hD hA hl kR
  have hS : va_S A s.heap s.heap [] := va_S.rf
  have hl : lv_has ls 3 [(0, .ref a0), (1, .int x1), (2, .int x2)] := hl
  have in_X9 : ∀ w ∈ u_ws RX9 TX9 45, w ∈ wsX9_single := by decide +kernel
  have lk_159 := hts (.fieldLink RX9 159 "BalloonMailModel" "number" "I") (by decide +kernel)
  unfold f_X9_single at hf
  refine lv_iload_n hx hb dX9_single_0 rfl (lv_at hl 1 rfl) ?_
  refine lv_bipush (v := (-2)) hx hb dX9_single_1 (by decide) ?_
  refine lv_icmp_eq (tgt := 14) hx hb dX9_single_3 (by decide) (fun hc => ?_) (fun hc => ?_)
  · have hf := o_t hc hf
    refine lv_aload_n hx hb dX9_single_14 rfl (lv_at hl 0 rfl) ?_
    obtain ⟨start_1, next__2, token_3, value_4, hc, hf⟩ := ob4_some hf
    refine g_VV (As := []) (rest := []) (ws' := (w_X9_single kc a0 a1 a2 a3 a4 a5 a6 a7 a8 a9 a10 a11 a12 a13 a14 a15 a16 a17 a18 a19 a20 a21 a22 a23 a24 a25 a26 a27 a28 thrown loftSize startWind seed draftLoft draftStart draftSeed length textSize start_1 next__2 token_3 value_4 error errorAt number undos text)) ⟨hx, hb, hml, hown, hts⟩ hN hK hP hD hS hA (c_X9_advance l D kc N a0 a1 a2 a3 a4 a5 a6 a7 a8 a9 a10 a11 a12 a13 a14 a15 a16 a17 a18 a19 a20 a21 a22 a23 a24 a25 a26 a27 a28 thrown loftSize startWind seed draftLoft draftStart draftSeed length textSize start next_ token value error errorAt number undos text start_1 next__2 token_3 value_4 hc) (cwV 0 hts gX9_single_X9_advance rfl rfl rfl (by decide +kernel) ⟨Nat.le_of_ble_eq_true rfl, Nat.le_of_ble_eq_true rfl⟩) [0, 1] [] [0, 1] (by exact ⟨rfl, rfl, by decide, rfl⟩) 0 9 rfl rfl rfl rfl hl.1 rfl (Nat.le_of_ble_eq_true rfl) dX9_single_15 ⟨Nat.le_refl _, Nat.le_refl _⟩ (fun H locs hP hD hS => ?_)
    refine lv_aload_n hx hb dX9_single_18 rfl (lv_at hl 0 rfl) ?_
    refine lv_iconst (v := 0) hx hb dX9_single_19 (by decide) ?_
    refine lv_iload_n hx hb dX9_single_20 rfl (lv_at hl 2 rfl) ?_
    obtain ⟨r_5, start_6, next__7, token_8, value_9, error_10, errorAt_11, number_12, hc, hf⟩ := ob8_some hf
    refine g_VZ (As := [.int 0, .int x2]) (rest := []) (ws' := (w_X9_single kc a0 a1 a2 a3 a4 a5 a6 a7 a8 a9 a10 a11 a12 a13 a14 a15 a16 a17 a18 a19 a20 a21 a22 a23 a24 a25 a26 a27 a28 thrown loftSize startWind seed draftLoft draftStart draftSeed length textSize start_6 next__7 token_8 value_9 error_10 errorAt_11 number_12 undos text)) ⟨hx, hb, hml, hown, hts⟩ hN hK hP hD hS hA (c_X9_takes l D kc N a0 a1 a2 a3 a4 a5 a6 a7 a8 a9 a10 a11 a12 a13 a14 a15 a16 a17 a18 a19 a20 a21 a22 a23 a24 a25 a26 a27 a28 thrown loftSize startWind seed draftLoft draftStart draftSeed length textSize start_1 next__2 token_3 value_4 error errorAt number undos text 0 x2 r_5 start_6 next__7 token_8 value_9 error_10 errorAt_11 number_12 hc) (cwV 2 hts gX9_single_X9_takes rfl rfl rfl (by decide +kernel) ⟨Nat.le_of_ble_eq_true rfl, Nat.le_of_ble_eq_true rfl⟩) [0, 1] [] [0, 1] (by exact ⟨rfl, rfl, by decide, rfl⟩) 0 9 rfl rfl rfl rfl hl.1 rfl (Nat.le_of_ble_eq_true rfl) dX9_single_21 ⟨Nat.le_refl _, Nat.le_refl _⟩ (fun H locs hz hP hD hS => ?_)
    have hz_13 := hz
    refine lv_if_eq (tgt := 34) hx hb dX9_single_24 (by decide) (fun hc => ?_) (fun hc => ?_)
    · have hf := o_t hc hf
      refine lv_iconst (v := (-1)) hx hb dX9_single_34 (by decide) ?_
      cases hf
      exact kR _ _ _ _ hP hD hS dX9_single_35
    · have hf := o_f hc hf
      refine lv_aload_n hx hb dX9_single_27 rfl (lv_at hl 0 rfl) ?_
      refine va_get (D := D) (ci := 9) (v := .int number_12) (C := RX9) (T := TX9) (N := 45) hx hb hts in_X9 hown hK hP 0 rfl rfl 35 (by decide) lk_159 (fun _ h9 => h9) rfl dX9_single_28 ?_
      refine lv_goto (tgt := 35) hx hb dX9_single_31 (by decide) ?_
      cases hf
      exact kR _ _ _ _ hP hD hS dX9_single_35
  · have hf := o_f hc hf
    refine lv_aload_n hx hb dX9_single_6 rfl (lv_at hl 0 rfl) ?_
    refine lv_iconst (v := 2) hx hb dX9_single_7 (by decide) ?_
    obtain ⟨r_14, error_15, errorAt_16, hc, hf⟩ := ob3_some hf
    refine g_VZ (As := [.int 2]) (rest := []) (ws' := (w_X9_single kc a0 a1 a2 a3 a4 a5 a6 a7 a8 a9 a10 a11 a12 a13 a14 a15 a16 a17 a18 a19 a20 a21 a22 a23 a24 a25 a26 a27 a28 thrown loftSize startWind seed draftLoft draftStart draftSeed length textSize start next_ token value error_15 errorAt_16 number undos text)) ⟨hx, hb, hml, hown, hts⟩ hN hK hP hD hS hA (c_X9_fails l D kc N a0 a1 a2 a3 a4 a5 a6 a7 a8 a9 a10 a11 a12 a13 a14 a15 a16 a17 a18 a19 a20 a21 a22 a23 a24 a25 a26 a27 a28 thrown loftSize startWind seed draftLoft draftStart draftSeed length textSize start next_ token value error errorAt number undos 2 r_14 error_15 errorAt_16 hc) (cwV 1 hts gX9_single_X9_fails rfl rfl rfl (by decide +kernel) ⟨Nat.le_of_ble_eq_true rfl, Nat.le_of_ble_eq_true rfl⟩) [0] [1] [1, 0] (by exact ⟨rfl, rfl, by decide, rfl⟩) 0 9 rfl rfl rfl rfl hl.1 rfl (Nat.le_of_ble_eq_true rfl) dX9_single_8 ⟨Nat.le_refl _, Nat.le_refl _⟩ (fun H locs hz hP hD hS => ?_)
    have hz_17 := hz
    refine lv_pop hx hb dX9_single_11 rfl ?_
    refine lv_iconst (v := (-1)) hx hb dX9_single_12 (by decide) ?_
    cases hf
    exact kR _ _ _ _ hP hD hS dX9_single_13
