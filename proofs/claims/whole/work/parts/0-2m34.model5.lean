abbrev w_X9_greatest (kc : Nat → ClassId) (a0 a1 a2 a3 a4 a5 a6 a7 a8 a9 a10 a11 a12 a13 a14 a15 a16 a17 a18 a19 a20 a21 a22 a23 a24 a25 a26 a27 a28 : Nat) (thrown : Int32) (loftSize : Int32) (startWind : Int32) (seed : Int32) (draftLoft : Int32) (draftStart : Int32) (draftSeed : Int32) (length : Int32) (textSize : Int32) (start : Int32) (next_ : Int32) (token : Int32) (value : Int32) (error : Int32) (errorAt : Int32) (number : Int32) (undos : Int32) (total : Nat → Int64) (now : Nat → Int32) (worth : Nat → Int64) : va_W := [(a0, .inr (9, [.int thrown, .ref a1, .ref a2, .ref a3, .ref a4, .ref a5, .ref a6, .ref a7, .ref a8, .ref a9, .ref a10, .ref a11, .ref a12, .ref a13, .ref a14, .ref a15, .ref a16, .ref a17, .ref a18, .ref a19, .int loftSize, .int startWind, .int seed, .int draftLoft, .int draftStart, .int draftSeed, .ref a20, .int length, .int textSize, .int start, .int next_, .int token, .int value, .int error, .int errorAt, .int number, .ref a21, .ref a22, .ref a23, .ref a24, .ref a25, .int undos, .ref a26, .ref a27, .ref a28])), (a23, .inl (kc 2, 5632, .inr (.inl total))), (a1, .inl (kc 1, 213, .inl now)), (a24, .inl (kc 2, 90, .inr (.inl worth)))]
set_option maxHeartbeats 4000000 in
set_option maxRecDepth 100000 in
theorem c_X9_greatest (l : Launch) (D : va_G) (kc : Nat → ClassId) (N : Nat) (a0 a1 a2 a3 a4 a5 a6 a7 a8 a9 a10 a11 a12 a13 a14 a15 a16 a17 a18 a19 a20 a21 a22 a23 a24 a25 a26 a27 a28 : Nat) (thrown : Int32) (loftSize : Int32) (startWind : Int32) (seed : Int32) (draftLoft : Int32) (draftStart : Int32) (draftSeed : Int32) (length : Int32) (textSize : Int32) (start : Int32) (next_ : Int32) (token : Int32) (value : Int32) (error : Int32) (errorAt : Int32) (number : Int32) (undos : Int32) (total : Nat → Int64) (now : Nat → Int32) (worth : Nat → Int64) (x1 : Int32) (x2 : Int32) (r_ : Int64) (hf : f_X9_greatest N total now worth x1 x2 = some r_) : ML l yX9_greatest wsX9_greatest ({ frames := 1, cells := 0, slots := 0, locals := 21 }) D kc [.ref a0, .int x1, .int x2] (w_X9_greatest kc a0 a1 a2 a3 a4 a5 a6 a7 a8 a9 a10 a11 a12 a13 a14 a15 a16 a17 a18 a19 a20 a21 a22 a23 a24 a25 a26 a27 a28 thrown loftSize startWind seed draftLoft draftStart draftSeed length textSize start next_ token value error errorAt number undos total now worth) (w_X9_greatest kc a0 a1 a2 a3 a4 a5 a6 a7 a8 a9 a10 a11 a12 a13 a14 a15 a16 a17 a18 a19 a20 a21 a22 a23 a24 a25 a26 a27 a28 thrown loftSize startWind seed draftLoft draftStart draftSeed length textSize start next_ token value error errorAt number undos total now worth) r_ := by
  refine gM_L (cc := cX9_greatest) (maxL := 8) (by decide) rfl (Nat.le_of_ble_eq_true rfl) ?_
  intro p e s m below meth c A ls Q hx hb hml hown hts hN hK hP hD hA hl kR
  have hS : va_S A s.heap s.heap [] := va_S.rf
  have hl : lv_has ls 8 [(0, .ref a0), (1, .int x1), (2, .int x2)] := hl
  have in_X9 : ∀ w ∈ u_ws RX9 TX9 45, w ∈ wsX9_greatest := by decide +kernel
  have lk_85 := hts (.fieldLink RX9 85 "BalloonMailModel" "total" "[J") (by decide +kernel)
  have lk_13 := hts (.fieldLink RX9 13 "BalloonMailModel" "now" "[I") (by decide +kernel)
  have lk_88 := hts (.fieldLink RX9 88 "BalloonMailModel" "worth" "[J") (by decide +kernel)
  unfold f_X9_greatest at hf
  refine lv_aload_n hx hb dX9_greatest_0 rfl (lv_at hl 0 rfl) ?_
  refine va_get (D := D) (ci := 9) (v := .ref a23) (C := RX9) (T := TX9) (N := 45) hx hb hts in_X9 hown hK hP 0 rfl rfl 38 (by decide) lk_85 (fun _ h9 => h9) rfl dX9_greatest_1 ?_
  refine lv_sipush (v := 512) hx hb dX9_greatest_4 (by decide) ?_
  refine lv_iload_n hx hb dX9_greatest_7 rfl (lv_at hl 1 rfl) ?_
  refine lv_iconst (v := 1) hx hb dX9_greatest_8 (by decide) ?_
  refine lv_iadd hx hb dX9_greatest_9 ?_
  refine lv_imul hx hb dX9_greatest_10 ?_
  refine lv_iload_n hx hb dX9_greatest_11 rfl (lv_at hl 2 rfl) ?_
  refine lv_iadd hx hb dX9_greatest_12 ?_
  obtain ⟨hi, hf⟩ := gIx_some hf
  refine va_lald hx hb hK hP 1 2 rfl rfl hi dX9_greatest_13 ?_
  refine lv_lstore_n (lv' := [(3, .long (total (((512 * (x1 + 1)) + x2) : Int32).toNatClampNeg)), (0, .ref a0), (1, .int x1), (2, .int x2)]) hx hb dX9_greatest_14 rfl hl (by decide) rfl (fun ls hl => ?_)
  refine lv_iconst (v := 0) hx hb dX9_greatest_15 (by decide) ?_
  refine lv_istore (lv' := [(5, .int 0), (3, .long (total (((512 * (x1 + 1)) + x2) : Int32).toNatClampNeg)), (0, .ref a0), (1, .int x1), (2, .int x2)]) hx hb dX9_greatest_16 hl (by decide) rfl (fun ls hl => ?_)
  have L18 : ∀ (n : Nat) (y5_18 : Int32) (y3_18 : Int64) (y5_18o : Int32) (y3_18o : Int64), f_X9_greatest_18 N total now worth x1 x2 n y5_18 y3_18 = some (y5_18o, y3_18o) → (∀ (H : Heap) (locs : List Loc) (ls : Array Slot), va_P D vwCl (w_X9_greatest kc a0 a1 a2 a3 a4 a5 a6 a7 a8 a9 a10 a11 a12 a13 a14 a15 a16 a17 a18 a19 a20 a21 a22 a23 a24 a25 a26 a27 a28 thrown loftSize startWind seed draftLoft draftStart draftSeed length textSize start next_ token value error errorAt number undos total now worth) H → va_D A (w_X9_greatest kc a0 a1 a2 a3 a4 a5 a6 a7 a8 a9 a10 a11 a12 a13 a14 a15 a16 a17 a18 a19 a20 a21 a22 a23 a24 a25 a26 a27 a28 thrown loftSize startWind seed draftLoft draftStart draftSeed length textSize start next_ token value error errorAt number undos total now worth) → va_S A s.heap H locs → lv_has ls 8 [(0, .ref a0), (1, .int x1), (2, .int x2), (3, .long y3_18o), (5, .int y5_18o)] → W p l e ({ frames := 1, cells := 0, slots := 0, locals := 21 }) s m (([.ref a0, .int x1, .int x2] : List Value).toArray) below meth c H locs 0 0 Q (F0 m 101 ls [])) → ∀ (H : Heap) (locs : List Loc) (ls : Array Slot), va_P D vwCl (w_X9_greatest kc a0 a1 a2 a3 a4 a5 a6 a7 a8 a9 a10 a11 a12 a13 a14 a15 a16 a17 a18 a19 a20 a21 a22 a23 a24 a25 a26 a27 a28 thrown loftSize startWind seed draftLoft draftStart draftSeed length textSize start next_ token value error errorAt number undos total now worth) H → va_D A (w_X9_greatest kc a0 a1 a2 a3 a4 a5 a6 a7 a8 a9 a10 a11 a12 a13 a14 a15 a16 a17 a18 a19 a20 a21 a22 a23 a24 a25 a26 a27 a28 thrown loftSize startWind seed draftLoft draftStart draftSeed length textSize start next_ token value error errorAt number undos total now worth) → va_S A s.heap H locs → lv_has ls 8 [(0, .ref a0), (1, .int x1), (2, .int x2), (3, .long y3_18), (5, .int y5_18)] → W p l e ({ frames := 1, cells := 0, slots := 0, locals := 21 }) s m (([.ref a0, .int x1, .int x2] : List Value).toArray) below meth c H locs 0 0 Q (F0 m 18 ls []) := by
    intro n
    induction n with
    | zero => intro _ _ _ _ hf; rw [f_X9_greatest_18.eq_1] at hf; cases hf
    | succ n ih =>
      intro y5_18 y3_18 y5_18o y3_18o hf hk H locs ls hP hD hS hl
      rw [f_X9_greatest_18.eq_2] at hf
      refine lv_iload hx hb dX9_greatest_18 (lv_at hl 4 rfl) ?_
      refine lv_bipush (v := 9) hx hb dX9_greatest_20 (by decide) ?_
      refine lv_icmp_ge (tgt := 101) hx hb dX9_greatest_22 (by decide) (fun hc => ?_) (fun hc => ?_)
      · have hf := o_t hc hf
        cases hf
        exact hk _ _ _ hP hD hS (lv_sub hl [0, 1, 2, 3, 4] rfl)
      · have hf := o_f hc hf
        refine lv_aload_n hx hb dX9_greatest_25 rfl (lv_at hl 0 rfl) ?_
        refine va_get (D := D) (ci := 9) (v := .ref a1) (C := RX9) (T := TX9) (N := 45) hx hb hts in_X9 hown hK hP 0 rfl rfl 1 (by decide) lk_13 (fun _ h9 => h9) rfl dX9_greatest_26 ?_
        refine lv_iconst (v := 5) hx hb dX9_greatest_29 (by decide) ?_
        refine lv_iload_n hx hb dX9_greatest_30 rfl (lv_at hl 1 rfl) ?_
        refine lv_iadd hx hb dX9_greatest_31 ?_
        obtain ⟨hi, hf⟩ := gIx_some hf
        refine va_iald hx hb hK hP 2 1 rfl rfl hi dX9_greatest_32 ?_
        refine lv_if_ne (tgt := 101) hx hb dX9_greatest_33 (by decide) (fun hc => ?_) (fun hc => ?_)
        · have hf := o_f hc hf
          cases hf
          exact hk _ _ _ hP hD hS (lv_sub hl [0, 1, 2, 3, 4] rfl)
        · have hf := o_t hc hf
          refine lv_iload_n hx hb dX9_greatest_36 rfl (lv_at hl 2 rfl) ?_
          refine lv_iload hx hb dX9_greatest_37 (lv_at hl 4 rfl) ?_
          obtain ⟨r_1, hc, hf⟩ := ob1_some hf
          refine g_SZ (As := [.int x2, .int y5_18]) (rest := []) (ws' := (w_X9_greatest kc a0 a1 a2 a3 a4 a5 a6 a7 a8 a9 a10 a11 a12 a13 a14 a15 a16 a17 a18 a19 a20 a21 a22 a23 a24 a25 a26 a27 a28 thrown loftSize startWind seed draftLoft draftStart draftSeed length textSize start next_ token value error errorAt number undos total now worth)) ⟨hx, hb, hml, hown, hts⟩ hN hK hP hD hS hA (c_X9_has l D kc N x2 y5_18 r_1 hc) (va_cwS 2 hts gX9_greatest_X9_has rfl rfl rfl (by decide +kernel) ⟨Nat.le_of_ble_eq_true rfl, Nat.le_of_ble_eq_true rfl⟩) [] [0, 1, 2, 3] [0, 1, 2, 3] (by exact ⟨rfl, rfl, by decide, rfl⟩) rfl hl.1 rfl (Nat.le_of_ble_eq_true rfl) dX9_greatest_39 ⟨Nat.le_refl _, Nat.le_refl _⟩ (fun H locs hz hP hD hS => ?_)
          have hz_2 := hz
          refine lv_if_eq (tgt := 95) hx hb dX9_greatest_42 (by decide) (fun hc => ?_) (fun hc => ?_)
          · have hf := o_t hc hf
            refine lv_iinc (v := (y5_18 + 1)) (lv' := [(5, .int (y5_18 + 1)), (0, .ref a0), (1, .int x1), (2, .int x2), (3, .long y3_18)]) hx hb dX9_greatest_95 hl (k := 4) rfl (by rfl) (by decide) rfl (fun ls hl => ?_)
            refine lv_goto (tgt := 18) hx hb dX9_greatest_98 (by decide) ?_
            exact ih _ _ _ _ hf hk _ _ _ hP hD hS (lv_sub hl [1, 2, 3, 4, 0] rfl)
          · have hf := o_f hc hf
            refine lv_aload_n hx hb dX9_greatest_45 rfl (lv_at hl 0 rfl) ?_
            refine va_get (D := D) (ci := 9) (v := .ref a24) (C := RX9) (T := TX9) (N := 45) hx hb hts in_X9 hown hK hP 0 rfl rfl 39 (by decide) lk_88 (fun _ h9 => h9) rfl dX9_greatest_46 ?_
            refine lv_bipush (v := 9) hx hb dX9_greatest_49 (by decide) ?_
            refine lv_iload_n hx hb dX9_greatest_51 rfl (lv_at hl 1 rfl) ?_
            refine lv_imul hx hb dX9_greatest_52 ?_
            refine lv_iload hx hb dX9_greatest_53 (lv_at hl 4 rfl) ?_
            refine lv_iadd hx hb dX9_greatest_55 ?_
            obtain ⟨hi, hf⟩ := gIx_some hf
            refine va_lald hx hb hK hP 3 2 rfl rfl hi dX9_greatest_56 ?_
            refine lv_aload_n hx hb dX9_greatest_57 rfl (lv_at hl 0 rfl) ?_
            refine va_get (D := D) (ci := 9) (v := .ref a23) (C := RX9) (T := TX9) (N := 45) hx hb hts in_X9 hown hK hP 0 rfl rfl 38 (by decide) lk_85 (fun _ h9 => h9) rfl dX9_greatest_58 ?_
            refine lv_sipush (v := 512) hx hb dX9_greatest_61 (by decide) ?_
            refine lv_iload_n hx hb dX9_greatest_64 rfl (lv_at hl 1 rfl) ?_
            refine lv_iconst (v := 1) hx hb dX9_greatest_65 (by decide) ?_
            refine lv_iadd hx hb dX9_greatest_66 ?_
            refine lv_imul hx hb dX9_greatest_67 ?_
            refine lv_iload_n hx hb dX9_greatest_68 rfl (lv_at hl 2 rfl) ?_
            refine lv_iconst (v := 1) hx hb dX9_greatest_69 (by decide) ?_
            refine lv_iload hx hb dX9_greatest_70 (lv_at hl 4 rfl) ?_
            refine lv_ishl hx hb dX9_greatest_72 ?_
            refine lv_iconst (v := (-1)) hx hb dX9_greatest_73 (by decide) ?_
            refine lv_ixor hx hb dX9_greatest_74 ?_
            refine lv_iand hx hb dX9_greatest_75 ?_
            refine lv_iadd hx hb dX9_greatest_76 ?_
            obtain ⟨hi, hf⟩ := gIx_some hf
            refine va_lald hx hb hK hP 1 2 rfl rfl hi dX9_greatest_77 ?_
            refine lv_ladd hx hb dX9_greatest_78 ?_
            refine lv_lstore (lv' := [(6, .long ((worth (((9 * x1) + y5_18) : Int32).toNatClampNeg) + (total (((512 * (x1 + 1)) + (x2 &&& (((1 : Int32) <<< ((y5_18 : Int32) &&& 31)) ^^^ (-1)))) : Int32).toNatClampNeg))), (0, .ref a0), (1, .int x1), (2, .int x2), (3, .long y3_18), (5, .int y5_18)]) hx hb dX9_greatest_79 hl (by decide) rfl (fun ls hl => ?_)
            refine lv_lload hx hb dX9_greatest_81 (lv_at hl 0 rfl) ?_
            refine lv_lload_n hx hb dX9_greatest_83 rfl (lv_at hl 4 rfl) ?_
            refine W.lcmp hx hb dX9_greatest_84 ?_
            refine lv_if_le (tgt := 93) hx hb dX9_greatest_85 (by decide) (fun hc => ?_) (fun hc => ?_)
            · have hf := o_t hc hf
              refine lv_lload_n hx hb dX9_greatest_93 rfl (lv_at hl 4 rfl) ?_
              refine lv_lstore_n (lv' := [(3, .long y3_18), (6, .long ((worth (((9 * x1) + y5_18) : Int32).toNatClampNeg) + (total (((512 * (x1 + 1)) + (x2 &&& (((1 : Int32) <<< ((y5_18 : Int32) &&& 31)) ^^^ (-1)))) : Int32).toNatClampNeg))), (0, .ref a0), (1, .int x1), (2, .int x2), (5, .int y5_18)]) hx hb dX9_greatest_94 rfl hl (by decide) rfl (fun ls hl => ?_)
              refine lv_iinc (v := (y5_18 + 1)) (lv' := [(5, .int (y5_18 + 1)), (3, .long y3_18), (6, .long ((worth (((9 * x1) + y5_18) : Int32).toNatClampNeg) + (total (((512 * (x1 + 1)) + (x2 &&& (((1 : Int32) <<< ((y5_18 : Int32) &&& 31)) ^^^ (-1)))) : Int32).toNatClampNeg))), (0, .ref a0), (1, .int x1), (2, .int x2)]) hx hb dX9_greatest_95 hl (k := 5) rfl (by rfl) (by decide) rfl (fun ls hl => ?_)
              refine lv_goto (tgt := 18) hx hb dX9_greatest_98 (by decide) ?_
              exact ih _ _ _ _ hf hk _ _ _ hP hD hS (lv_sub hl [3, 4, 5, 1, 0] rfl)
            · have hf := o_f hc hf
              refine lv_lload hx hb dX9_greatest_88 (lv_at hl 0 rfl) ?_
              refine lv_goto (tgt := 94) hx hb dX9_greatest_90 (by decide) ?_
              refine lv_lstore_n (lv' := [(3, .long ((worth (((9 * x1) + y5_18) : Int32).toNatClampNeg) + (total (((512 * (x1 + 1)) + (x2 &&& (((1 : Int32) <<< ((y5_18 : Int32) &&& 31)) ^^^ (-1)))) : Int32).toNatClampNeg))), (6, .long ((worth (((9 * x1) + y5_18) : Int32).toNatClampNeg) + (total (((512 * (x1 + 1)) + (x2 &&& (((1 : Int32) <<< ((y5_18 : Int32) &&& 31)) ^^^ (-1)))) : Int32).toNatClampNeg))), (0, .ref a0), (1, .int x1), (2, .int x2), (5, .int y5_18)]) hx hb dX9_greatest_94 rfl hl (by decide) rfl (fun ls hl => ?_)
              refine lv_iinc (v := (y5_18 + 1)) (lv' := [(5, .int (y5_18 + 1)), (3, .long ((worth (((9 * x1) + y5_18) : Int32).toNatClampNeg) + (total (((512 * (x1 + 1)) + (x2 &&& (((1 : Int32) <<< ((y5_18 : Int32) &&& 31)) ^^^ (-1)))) : Int32).toNatClampNeg))), (6, .long ((worth (((9 * x1) + y5_18) : Int32).toNatClampNeg) + (total (((512 * (x1 + 1)) + (x2 &&& (((1 : Int32) <<< ((y5_18 : Int32) &&& 31)) ^^^ (-1)))) : Int32).toNatClampNeg))), (0, .ref a0), (1, .int x1), (2, .int x2)]) hx hb dX9_greatest_95 hl (k := 5) rfl (by rfl) (by decide) rfl (fun ls hl => ?_)
              refine lv_goto (tgt := 18) hx hb dX9_greatest_98 (by decide) ?_
              exact ih _ _ _ _ hf hk _ _ _ hP hD hS (lv_sub hl [3, 4, 5, 1, 0] rfl)
  obtain ⟨y5_18o, y3_18o, hc, hf⟩ := ob2_some hf
  refine L18 N _ _ _ _ hc (fun H locs ls hP hD hS hl => ?_) _ _ _ hP hD hS (lv_sub hl [2, 3, 4, 1, 0] rfl)
  refine lv_lload_n hx hb dX9_greatest_101 rfl (lv_at hl 3 rfl) ?_
  cases hf
  exact kR _ _ _ _ hP hD hS dX9_greatest_102
abbrev w_X9_laysTotals (kc : Nat → ClassId) (a0 a1 a2 a3 a4 a5 a6 a7 a8 a9 a10 a11 a12 a13 a14 a15 a16 a17 a18 a19 a20 a21 a22 a23 a24 a25 a26 a27 a28 : Nat) (thrown : Int32) (loftSize : Int32) (startWind : Int32) (seed : Int32) (draftLoft : Int32) (draftStart : Int32) (draftSeed : Int32) (length : Int32) (textSize : Int32) (start : Int32) (next_ : Int32) (token : Int32) (value : Int32) (error : Int32) (errorAt : Int32) (number : Int32) (undos : Int32) (balloons : Nat → Int32) (room_ : Nat → Int32) (pigeons : Nat → Int32) (now : Nat → Int32) (chance : Nat → Int64) (turns : Nat → Int32) (turnFrom : Nat → Int32) (turnWeight : Nat → Int32) (chanceNext : Nat → Int64) (turnTo : Nat → Int32) (winds : Nat → Int32) (regions : Nat → Int32) (named : Nat → Int32) (namedWeight : Nat → Int32) (namedRegion : Nat → Int32) (risk : Nat → Int32) (comesBack : Nat → Int32) (worth : Nat → Int64) (total : Nat → Int64) : va_W := [(a0, .inr (9, [.int thrown, .ref a1, .ref a2, .ref a3, .ref a4, .ref a5, .ref a6, .ref a7, .ref a8, .ref a9, .ref a10, .ref a11, .ref a12, .ref a13, .ref a14, .ref a15, .ref a16, .ref a17, .ref a18, .ref a19, .int loftSize, .int startWind, .int seed, .int draftLoft, .int draftStart, .int draftSeed, .ref a20, .int length, .int textSize, .int start, .int next_, .int token, .int value, .int error, .int errorAt, .int number, .ref a21, .ref a22, .ref a23, .ref a24, .ref a25, .int undos, .ref a26, .ref a27, .ref a28])), (a14, .inl (kc 1, 2, .inl balloons)), (a15, .inl (kc 1, 20, .inl room_)), (a16, .inl (kc 1, 20, .inl pigeons)), (a1, .inl (kc 1, 213, .inl now)), (a21, .inl (kc 2, 6, .inr (.inl chance))), (a10, .inl (kc 1, 2, .inl turns)), (a11, .inl (kc 1, 60, .inl turnFrom)), (a13, .inl (kc 1, 60, .inl turnWeight)), (a22, .inl (kc 2, 6, .inr (.inl chanceNext))), (a12, .inl (kc 1, 60, .inl turnTo)), (a6, .inl (kc 1, 2, .inl winds)), (a2, .inl (kc 1, 2, .inl regions)), (a7, .inl (kc 1, 12, .inl named)), (a9, .inl (kc 1, 96, .inl namedWeight)), (a8, .inl (kc 1, 96, .inl namedRegion)), (a3, .inl (kc 1, 16, .inl risk)), (a5, .inl (kc 1, 16, .inl comesBack)), (a24, .inl (kc 2, 90, .inr (.inl worth))), (a23, .inl (kc 2, 5632, .inr (.inl total)))]
set_option maxHeartbeats 4000000 in
set_option maxRecDepth 100000 in
theorem c_X9_laysTotals (l : Launch) (D : va_G) (kc : Nat → ClassId) (N : Nat) (a0 a1 a2 a3 a4 a5 a6 a7 a8 a9 a10 a11 a12 a13 a14 a15 a16 a17 a18 a19 a20 a21 a22 a23 a24 a25 a26 a27 a28 : Nat) (thrown : Int32) (loftSize : Int32) (startWind : Int32) (seed : Int32) (draftLoft : Int32) (draftStart : Int32) (draftSeed : Int32) (length : Int32) (textSize : Int32) (start : Int32) (next_ : Int32) (token : Int32) (value : Int32) (error : Int32) (errorAt : Int32) (number : Int32) (undos : Int32) (balloons : Nat → Int32) (room_ : Nat → Int32) (pigeons : Nat → Int32) (now : Nat → Int32) (chance : Nat → Int64) (turns : Nat → Int32) (turnFrom : Nat → Int32) (turnWeight : Nat → Int32) (chanceNext : Nat → Int64) (turnTo : Nat → Int32) (winds : Nat → Int32) (regions : Nat → Int32) (named : Nat → Int32) (namedWeight : Nat → Int32) (namedRegion : Nat → Int32) (risk : Nat → Int32) (comesBack : Nat → Int32) (worth : Nat → Int64) (total : Nat → Int64) (chance' : Nat → Int64) (chanceNext' : Nat → Int64) (worth' : Nat → Int64) (total' : Nat → Int64) (hf : f_X9_laysTotals N balloons room_ pigeons now chance turns turnFrom turnWeight chanceNext turnTo winds regions named namedWeight namedRegion risk comesBack worth total = some (chance', chanceNext', worth', total')) : MV l yX9_laysTotals wsX9_laysTotals ({ frames := 4, cells := 0, slots := 0, locals := 97 }) D kc [.ref a0] (w_X9_laysTotals kc a0 a1 a2 a3 a4 a5 a6 a7 a8 a9 a10 a11 a12 a13 a14 a15 a16 a17 a18 a19 a20 a21 a22 a23 a24 a25 a26 a27 a28 thrown loftSize startWind seed draftLoft draftStart draftSeed length textSize start next_ token value error errorAt number undos balloons room_ pigeons now chance turns turnFrom turnWeight chanceNext turnTo winds regions named namedWeight namedRegion risk comesBack worth total) (w_X9_laysTotals kc a0 a1 a2 a3 a4 a5 a6 a7 a8 a9 a10 a11 a12 a13 a14 a15 a16 a17 a18 a19 a20 a21 a22 a23 a24 a25 a26 a27 a28 thrown loftSize startWind seed draftLoft draftStart draftSeed length textSize start next_ token value error errorAt number undos balloons room_ pigeons now chance' turns turnFrom turnWeight chanceNext' turnTo winds regions named namedWeight namedRegion risk comesBack worth' total') := by
  refine gM_V (cc := cX9_laysTotals) (maxL := 3) (by decide) rfl (Nat.le_of_ble_eq_true rfl) ?_
  intro p e s m below meth c A ls Q hx hb hml hown hts hN hK hP hD hA hl kR
  have hS : va_S A s.heap s.heap [] := va_S.rf
  have hl : lv_has ls 3 [(0, .ref a0)] := hl
  have in_X9 : ∀ w ∈ u_ws RX9 TX9 45, w ∈ wsX9_laysTotals := by decide +kernel
  have lk_53 := hts (.fieldLink RX9 53 "BalloonMailModel" "balloons" "[I") (by decide +kernel)
  have lk_88 := hts (.fieldLink RX9 88 "BalloonMailModel" "worth" "[J") (by decide +kernel)
  have lk_56 := hts (.fieldLink RX9 56 "BalloonMailModel" "room" "[I") (by decide +kernel)
  have lk_59 := hts (.fieldLink RX9 59 "BalloonMailModel" "pigeons" "[I") (by decide +kernel)
  have lk_85 := hts (.fieldLink RX9 85 "BalloonMailModel" "total" "[J") (by decide +kernel)
  unfold f_X9_laysTotals at hf
  refine lv_iconst (v := 0) hx hb dX9_laysTotals_0 (by decide) ?_
  refine lv_istore_n (lv' := [(1, .int 0), (0, .ref a0)]) hx hb dX9_laysTotals_1 rfl hl (by decide) rfl (fun ls hl => ?_)
  have L2 : ∀ (n : Nat) (y1_2 : Int32) (chance_2 : Nat → Int64) (chanceNext_2 : Nat → Int64) (worth_2 : Nat → Int64) (y1_2o : Int32) (chance_2o : Nat → Int64) (chanceNext_2o : Nat → Int64) (worth_2o : Nat → Int64), f_X9_laysTotals_2 N balloons room_ pigeons now turns turnFrom turnWeight turnTo winds regions named namedWeight namedRegion risk comesBack n y1_2 chance_2 chanceNext_2 worth_2 = some (y1_2o, chance_2o, chanceNext_2o, worth_2o) → (∀ (H : Heap) (locs : List Loc) (ls : Array Slot), va_P D vwCl (w_X9_laysTotals kc a0 a1 a2 a3 a4 a5 a6 a7 a8 a9 a10 a11 a12 a13 a14 a15 a16 a17 a18 a19 a20 a21 a22 a23 a24 a25 a26 a27 a28 thrown loftSize startWind seed draftLoft draftStart draftSeed length textSize start next_ token value error errorAt number undos balloons room_ pigeons now chance_2o turns turnFrom turnWeight chanceNext_2o turnTo winds regions named namedWeight namedRegion risk comesBack worth_2o total) H → va_D A (w_X9_laysTotals kc a0 a1 a2 a3 a4 a5 a6 a7 a8 a9 a10 a11 a12 a13 a14 a15 a16 a17 a18 a19 a20 a21 a22 a23 a24 a25 a26 a27 a28 thrown loftSize startWind seed draftLoft draftStart draftSeed length textSize start next_ token value error errorAt number undos balloons room_ pigeons now chance_2o turns turnFrom turnWeight chanceNext_2o turnTo winds regions named namedWeight namedRegion risk comesBack worth_2o total) → va_S A s.heap H locs → lv_has ls 3 [(0, .ref a0), (1, .int y1_2o)] → W p l e ({ frames := 4, cells := 0, slots := 0, locals := 97 }) s m (([.ref a0] : List Value).toArray) below meth c H locs 0 0 Q (F0 m 62 ls [])) → ∀ (H : Heap) (locs : List Loc) (ls : Array Slot), va_P D vwCl (w_X9_laysTotals kc a0 a1 a2 a3 a4 a5 a6 a7 a8 a9 a10 a11 a12 a13 a14 a15 a16 a17 a18 a19 a20 a21 a22 a23 a24 a25 a26 a27 a28 thrown loftSize startWind seed draftLoft draftStart draftSeed length textSize start next_ token value error errorAt number undos balloons room_ pigeons now chance_2 turns turnFrom turnWeight chanceNext_2 turnTo winds regions named namedWeight namedRegion risk comesBack worth_2 total) H → va_D A (w_X9_laysTotals kc a0 a1 a2 a3 a4 a5 a6 a7 a8 a9 a10 a11 a12 a13 a14 a15 a16 a17 a18 a19 a20 a21 a22 a23 a24 a25 a26 a27 a28 thrown loftSize startWind seed draftLoft draftStart draftSeed length textSize start next_ token value error errorAt number undos balloons room_ pigeons now chance_2 turns turnFrom turnWeight chanceNext_2 turnTo winds regions named namedWeight namedRegion risk comesBack worth_2 total) → va_S A s.heap H locs → lv_has ls 3 [(0, .ref a0), (1, .int y1_2)] → W p l e ({ frames := 4, cells := 0, slots := 0, locals := 97 }) s m (([.ref a0] : List Value).toArray) below meth c H locs 0 0 Q (F0 m 2 ls []) := by
    intro n
    induction n with
    | zero => intro _ _ _ _ _ _ _ _ hf; rw [f_X9_laysTotals_2.eq_1] at hf; cases hf
    | succ n ih =>
      intro y1_2 chance_2 chanceNext_2 worth_2 y1_2o chance_2o chanceNext_2o worth_2o hf hk H locs ls hP hD hS hl
      rw [f_X9_laysTotals_2.eq_2] at hf
      refine lv_iload_n hx hb dX9_laysTotals_2 rfl (lv_at hl 1 rfl) ?_
      refine lv_aload_n hx hb dX9_laysTotals_3 rfl (lv_at hl 0 rfl) ?_
      refine va_get (D := D) (ci := 9) (v := .ref a14) (C := RX9) (T := TX9) (N := 45) hx hb hts in_X9 hown hK hP 0 rfl rfl 14 (by decide) lk_53 (fun _ h9 => h9) rfl dX9_laysTotals_4 ?_
      refine lv_iconst (v := 0) hx hb dX9_laysTotals_7 (by decide) ?_
      obtain ⟨hi, hf⟩ := gIx_some hf
      refine va_iald hx hb hK hP 1 1 rfl rfl hi dX9_laysTotals_8 ?_
      refine lv_icmp_ge (tgt := 62) hx hb dX9_laysTotals_9 (by decide) (fun hc => ?_) (fun hc => ?_)
      · have hf := o_t hc hf
        cases hf
        exact hk _ _ _ hP hD hS (lv_sub hl [0, 1] rfl)
      · have hf := o_f hc hf
        refine lv_iconst (v := 0) hx hb dX9_laysTotals_12 (by decide) ?_
        refine lv_istore_n (lv' := [(2, .int 0), (0, .ref a0), (1, .int y1_2)]) hx hb dX9_laysTotals_13 rfl hl (by decide) rfl (fun ls hl => ?_)
        have L14 : ∀ (n : Nat) (y2_14 : Int32) (chance_14 : Nat → Int64) (chanceNext_14 : Nat → Int64) (worth_14 : Nat → Int64) (y2_14o : Int32) (chance_14o : Nat → Int64) (chanceNext_14o : Nat → Int64) (worth_14o : Nat → Int64), f_X9_laysTotals_14 N room_ pigeons now turns turnFrom turnWeight turnTo winds regions named namedWeight namedRegion risk comesBack y1_2 n y2_14 chance_14 chanceNext_14 worth_14 = some (y2_14o, chance_14o, chanceNext_14o, worth_14o) → (∀ (H : Heap) (locs : List Loc) (ls : Array Slot), va_P D vwCl (w_X9_laysTotals kc a0 a1 a2 a3 a4 a5 a6 a7 a8 a9 a10 a11 a12 a13 a14 a15 a16 a17 a18 a19 a20 a21 a22 a23 a24 a25 a26 a27 a28 thrown loftSize startWind seed draftLoft draftStart draftSeed length textSize start next_ token value error errorAt number undos balloons room_ pigeons now chance_14o turns turnFrom turnWeight chanceNext_14o turnTo winds regions named namedWeight namedRegion risk comesBack worth_14o total) H → va_D A (w_X9_laysTotals kc a0 a1 a2 a3 a4 a5 a6 a7 a8 a9 a10 a11 a12 a13 a14 a15 a16 a17 a18 a19 a20 a21 a22 a23 a24 a25 a26 a27 a28 thrown loftSize startWind seed draftLoft draftStart draftSeed length textSize start next_ token value error errorAt number undos balloons room_ pigeons now chance_14o turns turnFrom turnWeight chanceNext_14o turnTo winds regions named namedWeight namedRegion risk comesBack worth_14o total) → va_S A s.heap H locs → lv_has ls 3 [(0, .ref a0), (1, .int y1_2), (2, .int y2_14o)] → W p l e ({ frames := 4, cells := 0, slots := 0, locals := 97 }) s m (([.ref a0] : List Value).toArray) below meth c H locs 0 0 Q (F0 m 56 ls [])) → ∀ (H : Heap) (locs : List Loc) (ls : Array Slot), va_P D vwCl (w_X9_laysTotals kc a0 a1 a2 a3 a4 a5 a6 a7 a8 a9 a10 a11 a12 a13 a14 a15 a16 a17 a18 a19 a20 a21 a22 a23 a24 a25 a26 a27 a28 thrown loftSize startWind seed draftLoft draftStart draftSeed length textSize start next_ token value error errorAt number undos balloons room_ pigeons now chance_14 turns turnFrom turnWeight chanceNext_14 turnTo winds regions named namedWeight namedRegion risk comesBack worth_14 total) H → va_D A (w_X9_laysTotals kc a0 a1 a2 a3 a4 a5 a6 a7 a8 a9 a10 a11 a12 a13 a14 a15 a16 a17 a18 a19 a20 a21 a22 a23 a24 a25 a26 a27 a28 thrown loftSize startWind seed draftLoft draftStart draftSeed length textSize start next_ token value error errorAt number undos balloons room_ pigeons now chance_14 turns turnFrom turnWeight chanceNext_14 turnTo winds regions named namedWeight namedRegion risk comesBack worth_14 total) → va_S A s.heap H locs → lv_has ls 3 [(0, .ref a0), (1, .int y1_2), (2, .int y2_14)] → W p l e ({ frames := 4, cells := 0, slots := 0, locals := 97 }) s m (([.ref a0] : List Value).toArray) below meth c H locs 0 0 Q (F0 m 14 ls []) := by
          intro n
          induction n with
          | zero => intro _ _ _ _ _ _ _ _ hf; rw [f_X9_laysTotals_14.eq_1] at hf; cases hf
          | succ n ih =>
            intro y2_14 chance_14 chanceNext_14 worth_14 y2_14o chance_14o chanceNext_14o worth_14o hf hk H locs ls hP hD hS hl
            rw [f_X9_laysTotals_14.eq_2] at hf
            refine lv_iload_n hx hb dX9_laysTotals_14 rfl (lv_at hl 2 rfl) ?_
            refine lv_bipush (v := 9) hx hb dX9_laysTotals_15 (by decide) ?_
            refine lv_icmp_ge (tgt := 56) hx hb dX9_laysTotals_17 (by decide) (fun hc => ?_) (fun hc => ?_)
            · have hf := o_t hc hf
              cases hf
              exact hk _ _ _ hP hD hS (lv_sub hl [0, 1, 2] rfl)
            · have hf := o_f hc hf
              refine lv_aload_n hx hb dX9_laysTotals_20 rfl (lv_at hl 0 rfl) ?_
              refine va_get (D := D) (ci := 9) (v := .ref a24) (C := RX9) (T := TX9) (N := 45) hx hb hts in_X9 hown hK hP 0 rfl rfl 39 (by decide) lk_88 (fun _ h9 => h9) rfl dX9_laysTotals_21 ?_
              refine lv_bipush (v := 9) hx hb dX9_laysTotals_24 (by decide) ?_
              refine lv_iload_n hx hb dX9_laysTotals_26 rfl (lv_at hl 1 rfl) ?_
              refine lv_imul hx hb dX9_laysTotals_27 ?_
              refine lv_iload_n hx hb dX9_laysTotals_28 rfl (lv_at hl 2 rfl) ?_
              refine lv_iadd hx hb dX9_laysTotals_29 ?_
              refine lv_aload_n hx hb dX9_laysTotals_30 rfl (lv_at hl 0 rfl) ?_
              refine va_get (D := D) (ci := 9) (v := .ref a15) (C := RX9) (T := TX9) (N := 45) hx hb hts in_X9 hown hK hP 0 rfl rfl 15 (by decide) lk_56 (fun _ h9 => h9) rfl dX9_laysTotals_31 ?_
              refine lv_iload_n hx hb dX9_laysTotals_34 rfl (lv_at hl 1 rfl) ?_
              obtain ⟨hi, hf⟩ := gIx_some hf
              refine va_iald hx hb hK hP 2 1 rfl rfl hi dX9_laysTotals_35 ?_
              refine lv_i2l (v := ((room_ (y1_2 : Int32).toNatClampNeg) : Int32).toInt64) hx hb dX9_laysTotals_36 rfl ?_
              refine lv_aload_n hx hb dX9_laysTotals_37 rfl (lv_at hl 0 rfl) ?_
              refine lv_aload_n hx hb dX9_laysTotals_38 rfl (lv_at hl 0 rfl) ?_
              refine va_get (D := D) (ci := 9) (v := .ref a16) (C := RX9) (T := TX9) (N := 45) hx hb hts in_X9 hown hK hP 0 rfl rfl 16 (by decide) lk_59 (fun _ h9 => h9) rfl dX9_laysTotals_39 ?_
              refine lv_iload_n hx hb dX9_laysTotals_42 rfl (lv_at hl 1 rfl) ?_
              obtain ⟨hi, hf⟩ := gIx_some hf
              refine va_iald hx hb hK hP 3 1 rfl rfl hi dX9_laysTotals_43 ?_
              refine lv_iload_n hx hb dX9_laysTotals_44 rfl (lv_at hl 2 rfl) ?_
              obtain ⟨r_1, chance_2, chanceNext_3, hc, hf⟩ := ob3_some hf
              refine g_VL (As := [.int (pigeons (y1_2 : Int32).toNatClampNeg), .int y2_14]) (rest := [.long (((room_ (y1_2 : Int32).toNatClampNeg) : Int32).toInt64), .int ((9 * y1_2) + y2_14), .ref a24]) (ws' := (w_X9_laysTotals kc a0 a1 a2 a3 a4 a5 a6 a7 a8 a9 a10 a11 a12 a13 a14 a15 a16 a17 a18 a19 a20 a21 a22 a23 a24 a25 a26 a27 a28 thrown loftSize startWind seed draftLoft draftStart draftSeed length textSize start next_ token value error errorAt number undos balloons room_ pigeons now chance_2 turns turnFrom turnWeight chanceNext_3 turnTo winds regions named namedWeight namedRegion risk comesBack worth_14 total)) ⟨hx, hb, hml, hown, hts⟩ hN hK hP hD hS hA (c_X9_evenChance l D kc N a0 a1 a2 a3 a4 a5 a6 a7 a8 a9 a10 a11 a12 a13 a14 a15 a16 a17 a18 a19 a20 a21 a22 a23 a24 a25 a26 a27 a28 thrown loftSize startWind seed draftLoft draftStart draftSeed length textSize start next_ token value error errorAt number undos now chance_14 turns turnFrom turnWeight chanceNext_14 turnTo winds regions named namedWeight namedRegion risk comesBack (pigeons (y1_2 : Int32).toNatClampNeg) y2_14 r_1 chance_2 chanceNext_3 hc) (cwV 2 hts gX9_laysTotals_X9_evenChance rfl rfl rfl (by decide +kernel) ⟨Nat.le_of_ble_eq_true rfl, Nat.le_of_ble_eq_true rfl⟩) [0, 4, 5, 6, 7, 8, 9, 10, 11, 12, 13, 14, 15, 16, 17] [1, 2, 3, 18, 19] [5, 0, 1, 2, 6, 7, 8, 9, 10, 11, 12, 13, 14, 15, 16, 17, 18, 19, 3, 4] (by exact ⟨rfl, rfl, by decide, rfl⟩) 0 9 rfl rfl rfl rfl hl.1 rfl (Nat.le_of_ble_eq_true rfl) dX9_laysTotals_45 ⟨Nat.le_refl _, Nat.le_refl _⟩ (fun H locs hP hD hS => ?_)
              refine lv_lmul hx hb dX9_laysTotals_48 ?_
              obtain ⟨hi, hf⟩ := gIx_some hf
              refine va_last hx hb hK hP hD hS 18 2 rfl rfl hi dX9_laysTotals_49 (fun H locs hP hD hS => ?_)
              have hP : va_P D vwCl (w_X9_laysTotals kc a0 a1 a2 a3 a4 a5 a6 a7 a8 a9 a10 a11 a12 a13 a14 a15 a16 a17 a18 a19 a20 a21 a22 a23 a24 a25 a26 a27 a28 thrown loftSize startWind seed draftLoft draftStart draftSeed length textSize start next_ token value error errorAt number undos balloons room_ pigeons now chance_2 turns turnFrom turnWeight chanceNext_3 turnTo winds regions named namedWeight namedRegion risk comesBack (vp_updL worth_14 (((9 * y1_2) + y2_14) : Int32).toNatClampNeg ((((room_ (y1_2 : Int32).toNatClampNeg) : Int32).toInt64) * r_1)) total) H := hP
              have hD : va_D A (w_X9_laysTotals kc a0 a1 a2 a3 a4 a5 a6 a7 a8 a9 a10 a11 a12 a13 a14 a15 a16 a17 a18 a19 a20 a21 a22 a23 a24 a25 a26 a27 a28 thrown loftSize startWind seed draftLoft draftStart draftSeed length textSize start next_ token value error errorAt number undos balloons room_ pigeons now chance_2 turns turnFrom turnWeight chanceNext_3 turnTo winds regions named namedWeight namedRegion risk comesBack (vp_updL worth_14 (((9 * y1_2) + y2_14) : Int32).toNatClampNeg ((((room_ (y1_2 : Int32).toNatClampNeg) : Int32).toInt64) * r_1)) total) := hD
              refine lv_iinc (v := (y2_14 + 1)) (lv' := [(2, .int (y2_14 + 1)), (0, .ref a0), (1, .int y1_2)]) hx hb dX9_laysTotals_50 hl (k := 2) rfl (by rfl) (by decide) rfl (fun ls hl => ?_)
              refine lv_goto (tgt := 14) hx hb dX9_laysTotals_53 (by decide) ?_
              exact ih _ _ _ _ _ _ _ _ hf hk _ _ _ hP hD hS (lv_sub hl [1, 2, 0] rfl)
        obtain ⟨y2_14o, chance_14o, chanceNext_14o, worth_14o, hc, hf⟩ := ob4_some hf
        refine L14 N _ _ _ _ _ _ _ _ hc (fun H locs ls hP hD hS hl => ?_) _ _ _ hP hD hS (lv_sub hl [1, 2, 0] rfl)
        refine lv_iinc (v := (y1_2 + 1)) (lv' := [(1, .int (y1_2 + 1)), (0, .ref a0), (2, .int y2_14o)]) hx hb dX9_laysTotals_56 hl (k := 1) rfl (by rfl) (by decide) rfl (fun ls hl => ?_)
        refine lv_goto (tgt := 2) hx hb dX9_laysTotals_59 (by decide) ?_
        exact ih _ _ _ _ _ _ _ _ hf hk _ _ _ hP hD hS (lv_sub hl [1, 0] rfl)
  obtain ⟨y1_2o, chance_2o, chanceNext_2o, worth_2o, hc, hf⟩ := ob4_some hf
  refine L2 N _ _ _ _ _ _ _ _ hc (fun H locs ls hP hD hS hl => ?_) _ _ _ hP hD hS (lv_sub hl [1, 0] rfl)
  refine lv_iconst (v := 0) hx hb dX9_laysTotals_62 (by decide) ?_
  refine lv_istore_n (lv' := [(1, .int 0), (0, .ref a0)]) hx hb dX9_laysTotals_63 rfl hl (by decide) rfl (fun ls hl => ?_)
  have L64 : ∀ (n : Nat) (y1_64 : Int32) (total_64 : Nat → Int64) (y1_64o : Int32) (total_64o : Nat → Int64), f_X9_laysTotals_64 N balloons n y1_64 total_64 = some (y1_64o, total_64o) → (∀ (H : Heap) (locs : List Loc) (ls : Array Slot), va_P D vwCl (w_X9_laysTotals kc a0 a1 a2 a3 a4 a5 a6 a7 a8 a9 a10 a11 a12 a13 a14 a15 a16 a17 a18 a19 a20 a21 a22 a23 a24 a25 a26 a27 a28 thrown loftSize startWind seed draftLoft draftStart draftSeed length textSize start next_ token value error errorAt number undos balloons room_ pigeons now chance_2o turns turnFrom turnWeight chanceNext_2o turnTo winds regions named namedWeight namedRegion risk comesBack worth_2o total_64o) H → va_D A (w_X9_laysTotals kc a0 a1 a2 a3 a4 a5 a6 a7 a8 a9 a10 a11 a12 a13 a14 a15 a16 a17 a18 a19 a20 a21 a22 a23 a24 a25 a26 a27 a28 thrown loftSize startWind seed draftLoft draftStart draftSeed length textSize start next_ token value error errorAt number undos balloons room_ pigeons now chance_2o turns turnFrom turnWeight chanceNext_2o turnTo winds regions named namedWeight namedRegion risk comesBack worth_2o total_64o) → va_S A s.heap H locs → lv_has ls 3 [(0, .ref a0), (1, .int y1_64o)] → W p l e ({ frames := 4, cells := 0, slots := 0, locals := 97 }) s m (([.ref a0] : List Value).toArray) below meth c H locs 0 0 Q (F0 m 95 ls [])) → ∀ (H : Heap) (locs : List Loc) (ls : Array Slot), va_P D vwCl (w_X9_laysTotals kc a0 a1 a2 a3 a4 a5 a6 a7 a8 a9 a10 a11 a12 a13 a14 a15 a16 a17 a18 a19 a20 a21 a22 a23 a24 a25 a26 a27 a28 thrown loftSize startWind seed draftLoft draftStart draftSeed length textSize start next_ token value error errorAt number undos balloons room_ pigeons now chance_2o turns turnFrom turnWeight chanceNext_2o turnTo winds regions named namedWeight namedRegion risk comesBack worth_2o total_64) H → va_D A (w_X9_laysTotals kc a0 a1 a2 a3 a4 a5 a6 a7 a8 a9 a10 a11 a12 a13 a14 a15 a16 a17 a18 a19 a20 a21 a22 a23 a24 a25 a26 a27 a28 thrown loftSize startWind seed draftLoft draftStart draftSeed length textSize start next_ token value error errorAt number undos balloons room_ pigeons now chance_2o turns turnFrom turnWeight chanceNext_2o turnTo winds regions named namedWeight namedRegion risk comesBack worth_2o total_64) → va_S A s.heap H locs → lv_has ls 3 [(0, .ref a0), (1, .int y1_64)] → W p l e ({ frames := 4, cells := 0, slots := 0, locals := 97 }) s m (([.ref a0] : List Value).toArray) below meth c H locs 0 0 Q (F0 m 64 ls []) := by
    intro n
    induction n with
    | zero => intro _ _ _ _ hf; rw [f_X9_laysTotals_64.eq_1] at hf; cases hf
    | succ n ih =>
      intro y1_64 total_64 y1_64o total_64o hf hk H locs ls hP hD hS hl
      rw [f_X9_laysTotals_64.eq_2] at hf
      refine lv_iload_n hx hb dX9_laysTotals_64 rfl (lv_at hl 1 rfl) ?_
      refine lv_sipush (v := 512) hx hb dX9_laysTotals_65 (by decide) ?_
      refine lv_icmp_ge (tgt := 95) hx hb dX9_laysTotals_68 (by decide) (fun hc => ?_) (fun hc => ?_)
      · have hf := o_t hc hf
        cases hf
        exact hk _ _ _ hP hD hS (lv_sub hl [0, 1] rfl)
      · have hf := o_f hc hf
        refine lv_aload_n hx hb dX9_laysTotals_71 rfl (lv_at hl 0 rfl) ?_
        refine va_get (D := D) (ci := 9) (v := .ref a23) (C := RX9) (T := TX9) (N := 45) hx hb hts in_X9 hown hK hP 0 rfl rfl 38 (by decide) lk_85 (fun _ h9 => h9) rfl dX9_laysTotals_72 ?_
        refine lv_sipush (v := 512) hx hb dX9_laysTotals_75 (by decide) ?_
        refine lv_aload_n hx hb dX9_laysTotals_78 rfl (lv_at hl 0 rfl) ?_
        refine va_get (D := D) (ci := 9) (v := .ref a14) (C := RX9) (T := TX9) (N := 45) hx hb hts in_X9 hown hK hP 0 rfl rfl 14 (by decide) lk_53 (fun _ h9 => h9) rfl dX9_laysTotals_79 ?_
        refine lv_iconst (v := 0) hx hb dX9_laysTotals_82 (by decide) ?_
        obtain ⟨hi, hf⟩ := gIx_some hf
        refine va_iald hx hb hK hP 1 1 rfl rfl hi dX9_laysTotals_83 ?_
        refine lv_imul hx hb dX9_laysTotals_84 ?_
        refine lv_iload_n hx hb dX9_laysTotals_85 rfl (lv_at hl 1 rfl) ?_
        refine lv_iadd hx hb dX9_laysTotals_86 ?_
        refine lv_lconst (v := 0) hx hb dX9_laysTotals_87 (by decide) ?_
        obtain ⟨hi, hf⟩ := gIx_some hf
        refine va_last hx hb hK hP hD hS 19 2 rfl rfl hi dX9_laysTotals_88 (fun H locs hP hD hS => ?_)
        have hP : va_P D vwCl (w_X9_laysTotals kc a0 a1 a2 a3 a4 a5 a6 a7 a8 a9 a10 a11 a12 a13 a14 a15 a16 a17 a18 a19 a20 a21 a22 a23 a24 a25 a26 a27 a28 thrown loftSize startWind seed draftLoft draftStart draftSeed length textSize start next_ token value error errorAt number undos balloons room_ pigeons now chance_2o turns turnFrom turnWeight chanceNext_2o turnTo winds regions named namedWeight namedRegion risk comesBack worth_2o (vp_updL total_64 (((512 * (balloons (0 : Int32).toNatClampNeg)) + y1_64) : Int32).toNatClampNeg 0)) H := hP
        have hD : va_D A (w_X9_laysTotals kc a0 a1 a2 a3 a4 a5 a6 a7 a8 a9 a10 a11 a12 a13 a14 a15 a16 a17 a18 a19 a20 a21 a22 a23 a24 a25 a26 a27 a28 thrown loftSize startWind seed draftLoft draftStart draftSeed length textSize start next_ token value error errorAt number undos balloons room_ pigeons now chance_2o turns turnFrom turnWeight chanceNext_2o turnTo winds regions named namedWeight namedRegion risk comesBack worth_2o (vp_updL total_64 (((512 * (balloons (0 : Int32).toNatClampNeg)) + y1_64) : Int32).toNatClampNeg 0)) := hD
        refine lv_iinc (v := (y1_64 + 1)) (lv' := [(1, .int (y1_64 + 1)), (0, .ref a0)]) hx hb dX9_laysTotals_89 hl (k := 1) rfl (by rfl) (by decide) rfl (fun ls hl => ?_)
        refine lv_goto (tgt := 64) hx hb dX9_laysTotals_92 (by decide) ?_
        exact ih _ _ _ _ hf hk _ _ _ hP hD hS (lv_sub hl [1, 0] rfl)
  obtain ⟨y1_64o, total_64o, hc, hf⟩ := ob2_some hf
  refine L64 N _ _ _ _ hc (fun H locs ls hP hD hS hl => ?_) _ _ _ hP hD hS (lv_sub hl [1, 0] rfl)
  refine lv_aload_n hx hb dX9_laysTotals_95 rfl (lv_at hl 0 rfl) ?_
  refine va_get (D := D) (ci := 9) (v := .ref a14) (C := RX9) (T := TX9) (N := 45) hx hb hts in_X9 hown hK hP 0 rfl rfl 14 (by decide) lk_53 (fun _ h9 => h9) rfl dX9_laysTotals_96 ?_
  refine lv_iconst (v := 0) hx hb dX9_laysTotals_99 (by decide) ?_
  obtain ⟨hi, hf⟩ := gIx_some hf
  refine va_iald hx hb hK hP 1 1 rfl rfl hi dX9_laysTotals_100 ?_
  refine lv_iconst (v := 1) hx hb dX9_laysTotals_101 (by decide) ?_
  refine lv_isub hx hb dX9_laysTotals_102 ?_
  refine lv_istore_n (lv' := [(1, .int ((balloons (0 : Int32).toNatClampNeg) - 1)), (0, .ref a0)]) hx hb dX9_laysTotals_103 rfl hl (by decide) rfl (fun ls hl => ?_)
  have L104 : ∀ (n : Nat) (y1_104 : Int32) (total_104 : Nat → Int64) (y1_104o : Int32) (total_104o : Nat → Int64), f_X9_laysTotals_104 N now worth_2o n y1_104 total_104 = some (y1_104o, total_104o) → (∀ (H : Heap) (locs : List Loc) (ls : Array Slot), va_P D vwCl (w_X9_laysTotals kc a0 a1 a2 a3 a4 a5 a6 a7 a8 a9 a10 a11 a12 a13 a14 a15 a16 a17 a18 a19 a20 a21 a22 a23 a24 a25 a26 a27 a28 thrown loftSize startWind seed draftLoft draftStart draftSeed length textSize start next_ token value error errorAt number undos balloons room_ pigeons now chance_2o turns turnFrom turnWeight chanceNext_2o turnTo winds regions named namedWeight namedRegion risk comesBack worth_2o total_104o) H → va_D A (w_X9_laysTotals kc a0 a1 a2 a3 a4 a5 a6 a7 a8 a9 a10 a11 a12 a13 a14 a15 a16 a17 a18 a19 a20 a21 a22 a23 a24 a25 a26 a27 a28 thrown loftSize startWind seed draftLoft draftStart draftSeed length textSize start next_ token value error errorAt number undos balloons room_ pigeons now chance_2o turns turnFrom turnWeight chanceNext_2o turnTo winds regions named namedWeight namedRegion risk comesBack worth_2o total_104o) → va_S A s.heap H locs → lv_has ls 3 [(0, .ref a0), (1, .int y1_104o)] → W p l e ({ frames := 4, cells := 0, slots := 0, locals := 97 }) s m (([.ref a0] : List Value).toArray) below meth c H locs 0 0 Q (F0 m 147 ls [])) → ∀ (H : Heap) (locs : List Loc) (ls : Array Slot), va_P D vwCl (w_X9_laysTotals kc a0 a1 a2 a3 a4 a5 a6 a7 a8 a9 a10 a11 a12 a13 a14 a15 a16 a17 a18 a19 a20 a21 a22 a23 a24 a25 a26 a27 a28 thrown loftSize startWind seed draftLoft draftStart draftSeed length textSize start next_ token value error errorAt number undos balloons room_ pigeons now chance_2o turns turnFrom turnWeight chanceNext_2o turnTo winds regions named namedWeight namedRegion risk comesBack worth_2o total_104) H → va_D A (w_X9_laysTotals kc a0 a1 a2 a3 a4 a5 a6 a7 a8 a9 a10 a11 a12 a13 a14 a15 a16 a17 a18 a19 a20 a21 a22 a23 a24 a25 a26 a27 a28 thrown loftSize startWind seed draftLoft draftStart draftSeed length textSize start next_ token value error errorAt number undos balloons room_ pigeons now chance_2o turns turnFrom turnWeight chanceNext_2o turnTo winds regions named namedWeight namedRegion risk comesBack worth_2o total_104) → va_S A s.heap H locs → lv_has ls 3 [(0, .ref a0), (1, .int y1_104)] → W p l e ({ frames := 4, cells := 0, slots := 0, locals := 97 }) s m (([.ref a0] : List Value).toArray) below meth c H locs 0 0 Q (F0 m 104 ls []) := by
    intro n
    induction n with
    | zero => intro _ _ _ _ hf; rw [f_X9_laysTotals_104.eq_1] at hf; cases hf
    | succ n ih =>
      intro y1_104 total_104 y1_104o total_104o hf hk H locs ls hP hD hS hl
      rw [f_X9_laysTotals_104.eq_2] at hf
      refine lv_iload_n hx hb dX9_laysTotals_104 rfl (lv_at hl 1 rfl) ?_
      refine lv_if_lt (tgt := 147) hx hb dX9_laysTotals_105 (by decide) (fun hc => ?_) (fun hc => ?_)
      · have hf := o_t hc hf
        cases hf
        exact hk _ _ _ hP hD hS (lv_sub hl [0, 1] rfl)
      · have hf := o_f hc hf
        refine lv_iconst (v := 0) hx hb dX9_laysTotals_108 (by decide) ?_
        refine lv_istore_n (lv' := [(2, .int 0), (0, .ref a0), (1, .int y1_104)]) hx hb dX9_laysTotals_109 rfl hl (by decide) rfl (fun ls hl => ?_)
        have L110 : ∀ (n : Nat) (y2_110 : Int32) (total_110 : Nat → Int64) (y2_110o : Int32) (total_110o : Nat → Int64), f_X9_laysTotals_110 N now worth_2o y1_104 n y2_110 total_110 = some (y2_110o, total_110o) → (∀ (H : Heap) (locs : List Loc) (ls : Array Slot), va_P D vwCl (w_X9_laysTotals kc a0 a1 a2 a3 a4 a5 a6 a7 a8 a9 a10 a11 a12 a13 a14 a15 a16 a17 a18 a19 a20 a21 a22 a23 a24 a25 a26 a27 a28 thrown loftSize startWind seed draftLoft draftStart draftSeed length textSize start next_ token value error errorAt number undos balloons room_ pigeons now chance_2o turns turnFrom turnWeight chanceNext_2o turnTo winds regions named namedWeight namedRegion risk comesBack worth_2o total_110o) H → va_D A (w_X9_laysTotals kc a0 a1 a2 a3 a4 a5 a6 a7 a8 a9 a10 a11 a12 a13 a14 a15 a16 a17 a18 a19 a20 a21 a22 a23 a24 a25 a26 a27 a28 thrown loftSize startWind seed draftLoft draftStart draftSeed length textSize start next_ token value error errorAt number undos balloons room_ pigeons now chance_2o turns turnFrom turnWeight chanceNext_2o turnTo winds regions named namedWeight namedRegion risk comesBack worth_2o total_110o) → va_S A s.heap H locs → lv_has ls 3 [(0, .ref a0), (1, .int y1_104), (2, .int y2_110o)] → W p l e ({ frames := 4, cells := 0, slots := 0, locals := 97 }) s m (([.ref a0] : List Value).toArray) below meth c H locs 0 0 Q (F0 m 141 ls [])) → ∀ (H : Heap) (locs : List Loc) (ls : Array Slot), va_P D vwCl (w_X9_laysTotals kc a0 a1 a2 a3 a4 a5 a6 a7 a8 a9 a10 a11 a12 a13 a14 a15 a16 a17 a18 a19 a20 a21 a22 a23 a24 a25 a26 a27 a28 thrown loftSize startWind seed draftLoft draftStart draftSeed length textSize start next_ token value error errorAt number undos balloons room_ pigeons now chance_2o turns turnFrom turnWeight chanceNext_2o turnTo winds regions named namedWeight namedRegion risk comesBack worth_2o total_110) H → va_D A (w_X9_laysTotals kc a0 a1 a2 a3 a4 a5 a6 a7 a8 a9 a10 a11 a12 a13 a14 a15 a16 a17 a18 a19 a20 a21 a22 a23 a24 a25 a26 a27 a28 thrown loftSize startWind seed draftLoft draftStart draftSeed length textSize start next_ token value error errorAt number undos balloons room_ pigeons now chance_2o turns turnFrom turnWeight chanceNext_2o turnTo winds regions named namedWeight namedRegion risk comesBack worth_2o total_110) → va_S A s.heap H locs → lv_has ls 3 [(0, .ref a0), (1, .int y1_104), (2, .int y2_110)] → W p l e ({ frames := 4, cells := 0, slots := 0, locals := 97 }) s m (([.ref a0] : List Value).toArray) below meth c H locs 0 0 Q (F0 m 110 ls []) := by
          intro n
          induction n with
          | zero => intro _ _ _ _ hf; rw [f_X9_laysTotals_110.eq_1] at hf; cases hf
          | succ n ih =>
            intro y2_110 total_110 y2_110o total_110o hf hk H locs ls hP hD hS hl
            rw [f_X9_laysTotals_110.eq_2] at hf
            refine lv_iload_n hx hb dX9_laysTotals_110 rfl (lv_at hl 2 rfl) ?_
            refine lv_sipush (v := 512) hx hb dX9_laysTotals_111 (by decide) ?_
            refine lv_icmp_ge (tgt := 141) hx hb dX9_laysTotals_114 (by decide) (fun hc => ?_) (fun hc => ?_)
            · have hf := o_t hc hf
              cases hf
              exact hk _ _ _ hP hD hS (lv_sub hl [0, 1, 2] rfl)
            · have hf := o_f hc hf
              refine lv_aload_n hx hb dX9_laysTotals_117 rfl (lv_at hl 0 rfl) ?_
              refine va_get (D := D) (ci := 9) (v := .ref a23) (C := RX9) (T := TX9) (N := 45) hx hb hts in_X9 hown hK hP 0 rfl rfl 38 (by decide) lk_85 (fun _ h9 => h9) rfl dX9_laysTotals_118 ?_
              refine lv_sipush (v := 512) hx hb dX9_laysTotals_121 (by decide) ?_
              refine lv_iload_n hx hb dX9_laysTotals_124 rfl (lv_at hl 1 rfl) ?_
              refine lv_imul hx hb dX9_laysTotals_125 ?_
              refine lv_iload_n hx hb dX9_laysTotals_126 rfl (lv_at hl 2 rfl) ?_
              refine lv_iadd hx hb dX9_laysTotals_127 ?_
              refine lv_aload_n hx hb dX9_laysTotals_128 rfl (lv_at hl 0 rfl) ?_
              refine lv_iload_n hx hb dX9_laysTotals_129 rfl (lv_at hl 1 rfl) ?_
              refine lv_iload_n hx hb dX9_laysTotals_130 rfl (lv_at hl 2 rfl) ?_
              obtain ⟨r_4, hc, hf⟩ := ob1_some hf
              refine g_VL (As := [.int y1_104, .int y2_110]) (rest := [.int ((512 * y1_104) + y2_110), .ref a23]) (ws' := (w_X9_laysTotals kc a0 a1 a2 a3 a4 a5 a6 a7 a8 a9 a10 a11 a12 a13 a14 a15 a16 a17 a18 a19 a20 a21 a22 a23 a24 a25 a26 a27 a28 thrown loftSize startWind seed draftLoft draftStart draftSeed length textSize start next_ token value error errorAt number undos balloons room_ pigeons now chance_2o turns turnFrom turnWeight chanceNext_2o turnTo winds regions named namedWeight namedRegion risk comesBack worth_2o total_110)) ⟨hx, hb, hml, hown, hts⟩ hN hK hP hD hS hA (c_X9_greatest l D kc N a0 a1 a2 a3 a4 a5 a6 a7 a8 a9 a10 a11 a12 a13 a14 a15 a16 a17 a18 a19 a20 a21 a22 a23 a24 a25 a26 a27 a28 thrown loftSize startWind seed draftLoft draftStart draftSeed length textSize start next_ token value error errorAt number undos total_110 now worth_2o y1_104 y2_110 r_4 hc) (cwV 2 hts gX9_laysTotals_X9_greatest rfl rfl rfl (by decide +kernel) ⟨Nat.le_of_ble_eq_true rfl, Nat.le_of_ble_eq_true rfl⟩) [0, 19, 4, 18] [1, 2, 3, 5, 6, 7, 8, 9, 10, 11, 12, 13, 14, 15, 16, 17] [16, 0, 1, 2, 18, 3, 4, 5, 6, 7, 8, 9, 10, 11, 12, 13, 14, 15, 19, 17] (by exact ⟨rfl, rfl, by decide, rfl⟩) 0 9 rfl rfl rfl rfl hl.1 rfl (Nat.le_of_ble_eq_true rfl) dX9_laysTotals_131 ⟨Nat.le_refl _, Nat.le_refl _⟩ (fun H locs hP hD hS => ?_)
              obtain ⟨hi, hf⟩ := gIx_some hf
              refine va_last hx hb hK hP hD hS 19 2 rfl rfl hi dX9_laysTotals_134 (fun H locs hP hD hS => ?_)
              have hP : va_P D vwCl (w_X9_laysTotals kc a0 a1 a2 a3 a4 a5 a6 a7 a8 a9 a10 a11 a12 a13 a14 a15 a16 a17 a18 a19 a20 a21 a22 a23 a24 a25 a26 a27 a28 thrown loftSize startWind seed draftLoft draftStart draftSeed length textSize start next_ token value error errorAt number undos balloons room_ pigeons now chance_2o turns turnFrom turnWeight chanceNext_2o turnTo winds regions named namedWeight namedRegion risk comesBack worth_2o (vp_updL total_110 (((512 * y1_104) + y2_110) : Int32).toNatClampNeg r_4)) H := hP
              have hD : va_D A (w_X9_laysTotals kc a0 a1 a2 a3 a4 a5 a6 a7 a8 a9 a10 a11 a12 a13 a14 a15 a16 a17 a18 a19 a20 a21 a22 a23 a24 a25 a26 a27 a28 thrown loftSize startWind seed draftLoft draftStart draftSeed length textSize start next_ token value error errorAt number undos balloons room_ pigeons now chance_2o turns turnFrom turnWeight chanceNext_2o turnTo winds regions named namedWeight namedRegion risk comesBack worth_2o (vp_updL total_110 (((512 * y1_104) + y2_110) : Int32).toNatClampNeg r_4)) := hD
              refine lv_iinc (v := (y2_110 + 1)) (lv' := [(2, .int (y2_110 + 1)), (0, .ref a0), (1, .int y1_104)]) hx hb dX9_laysTotals_135 hl (k := 2) rfl (by rfl) (by decide) rfl (fun ls hl => ?_)
              refine lv_goto (tgt := 110) hx hb dX9_laysTotals_138 (by decide) ?_
              exact ih _ _ _ _ hf hk _ _ _ hP hD hS (lv_sub hl [1, 2, 0] rfl)
        obtain ⟨y2_110o, total_110o, hc, hf⟩ := ob2_some hf
        refine L110 N _ _ _ _ hc (fun H locs ls hP hD hS hl => ?_) _ _ _ hP hD hS (lv_sub hl [1, 2, 0] rfl)
        refine lv_iinc (v := (y1_104 + (-1))) (lv' := [(1, .int (y1_104 + (-1))), (0, .ref a0), (2, .int y2_110o)]) hx hb dX9_laysTotals_141 hl (k := 1) rfl (by rfl) (by decide) rfl (fun ls hl => ?_)
        refine lv_goto (tgt := 104) hx hb dX9_laysTotals_144 (by decide) ?_
        exact ih _ _ _ _ hf hk _ _ _ hP hD hS (lv_sub hl [1, 0] rfl)
  obtain ⟨y1_104o, total_104o, hc, hf⟩ := ob2_some hf
  refine L104 N _ _ _ _ hc (fun H locs ls hP hD hS hl => ?_) _ _ _ hP hD hS (lv_sub hl [1, 0] rfl)
  cases hf
  exact kR _ _ _ _ hP hD hS dX9_laysTotals_147
abbrev w_X9_assignmentTotal (kc : Nat → ClassId) (a0 a1 a2 a3 a4 a5 a6 a7 a8 a9 a10 a11 a12 a13 a14 a15 a16 a17 a18 a19 a20 a21 a22 a23 a24 a25 a26 a27 a28 : Nat) (thrown : Int32) (loftSize : Int32) (startWind : Int32) (seed : Int32) (draftLoft : Int32) (draftStart : Int32) (draftSeed : Int32) (length : Int32) (textSize : Int32) (start : Int32) (next_ : Int32) (token : Int32) (value : Int32) (error : Int32) (errorAt : Int32) (number : Int32) (undos : Int32) (winds : Nat → Int32) (balloons : Nat → Int32) (room_ : Nat → Int32) (pigeons : Nat → Int32) (now : Nat → Int32) (chance : Nat → Int64) (turns : Nat → Int32) (turnFrom : Nat → Int32) (turnWeight : Nat → Int32) (chanceNext : Nat → Int64) (turnTo : Nat → Int32) (regions : Nat → Int32) (named : Nat → Int32) (namedWeight : Nat → Int32) (namedRegion : Nat → Int32) (risk : Nat → Int32) (comesBack : Nat → Int32) (worth : Nat → Int64) (total : Nat → Int64) : va_W := [(a0, .inr (9, [.int thrown, .ref a1, .ref a2, .ref a3, .ref a4, .ref a5, .ref a6, .ref a7, .ref a8, .ref a9, .ref a10, .ref a11, .ref a12, .ref a13, .ref a14, .ref a15, .ref a16, .ref a17, .ref a18, .ref a19, .int loftSize, .int startWind, .int seed, .int draftLoft, .int draftStart, .int draftSeed, .ref a20, .int length, .int textSize, .int start, .int next_, .int token, .int value, .int error, .int errorAt, .int number, .ref a21, .ref a22, .ref a23, .ref a24, .ref a25, .int undos, .ref a26, .ref a27, .ref a28])), (a6, .inl (kc 1, 2, .inl winds)), (a14, .inl (kc 1, 2, .inl balloons)), (a15, .inl (kc 1, 20, .inl room_)), (a16, .inl (kc 1, 20, .inl pigeons)), (a1, .inl (kc 1, 213, .inl now)), (a21, .inl (kc 2, 6, .inr (.inl chance))), (a10, .inl (kc 1, 2, .inl turns)), (a11, .inl (kc 1, 60, .inl turnFrom)), (a13, .inl (kc 1, 60, .inl turnWeight)), (a22, .inl (kc 2, 6, .inr (.inl chanceNext))), (a12, .inl (kc 1, 60, .inl turnTo)), (a2, .inl (kc 1, 2, .inl regions)), (a7, .inl (kc 1, 12, .inl named)), (a9, .inl (kc 1, 96, .inl namedWeight)), (a8, .inl (kc 1, 96, .inl namedRegion)), (a3, .inl (kc 1, 16, .inl risk)), (a5, .inl (kc 1, 16, .inl comesBack)), (a24, .inl (kc 2, 90, .inr (.inl worth))), (a23, .inl (kc 2, 5632, .inr (.inl total)))]
set_option maxHeartbeats 4000000 in
set_option maxRecDepth 100000 in
theorem c_X9_assignmentTotal (l : Launch) (D : va_G) (kc : Nat → ClassId) (N : Nat) (a0 a1 a2 a3 a4 a5 a6 a7 a8 a9 a10 a11 a12 a13 a14 a15 a16 a17 a18 a19 a20 a21 a22 a23 a24 a25 a26 a27 a28 : Nat) (thrown : Int32) (loftSize : Int32) (startWind : Int32) (seed : Int32) (draftLoft : Int32) (draftStart : Int32) (draftSeed : Int32) (length : Int32) (textSize : Int32) (start : Int32) (next_ : Int32) (token : Int32) (value : Int32) (error : Int32) (errorAt : Int32) (number : Int32) (undos : Int32) (winds : Nat → Int32) (balloons : Nat → Int32) (room_ : Nat → Int32) (pigeons : Nat → Int32) (now : Nat → Int32) (chance : Nat → Int64) (turns : Nat → Int32) (turnFrom : Nat → Int32) (turnWeight : Nat → Int32) (chanceNext : Nat → Int64) (turnTo : Nat → Int32) (regions : Nat → Int32) (named : Nat → Int32) (namedWeight : Nat → Int32) (namedRegion : Nat → Int32) (risk : Nat → Int32) (comesBack : Nat → Int32) (worth : Nat → Int64) (total : Nat → Int64) (r_ : Int64) (thrown' : Int32) (chance' : Nat → Int64) (chanceNext' : Nat → Int64) (worth' : Nat → Int64) (total' : Nat → Int64) (hf : f_X9_assignmentTotal N winds balloons room_ pigeons now chance turns turnFrom turnWeight chanceNext turnTo regions named namedWeight namedRegion risk comesBack worth total = some (r_, thrown', chance', chanceNext', worth', total')) : ML l yX9_assignmentTotal wsX9_assignmentTotal ({ frames := 5, cells := 0, slots := 0, locals := 119 }) D kc [.ref a0] (w_X9_assignmentTotal kc a0 a1 a2 a3 a4 a5 a6 a7 a8 a9 a10 a11 a12 a13 a14 a15 a16 a17 a18 a19 a20 a21 a22 a23 a24 a25 a26 a27 a28 thrown loftSize startWind seed draftLoft draftStart draftSeed length textSize start next_ token value error errorAt number undos winds balloons room_ pigeons now chance turns turnFrom turnWeight chanceNext turnTo regions named namedWeight namedRegion risk comesBack worth total) (w_X9_assignmentTotal kc a0 a1 a2 a3 a4 a5 a6 a7 a8 a9 a10 a11 a12 a13 a14 a15 a16 a17 a18 a19 a20 a21 a22 a23 a24 a25 a26 a27 a28 thrown' loftSize startWind seed draftLoft draftStart draftSeed length textSize start next_ token value error errorAt number undos winds balloons room_ pigeons now chance' turns turnFrom turnWeight chanceNext' turnTo regions named namedWeight namedRegion risk comesBack worth' total') r_ := by
  refine gM_L (cc := cX9_assignmentTotal) (maxL := 1) (by decide) rfl (Nat.le_of_ble_eq_true rfl) ?_
  intro p e s m below meth c A ls Q hx hb hml hown hts hN hK hP hD hA hl kR
  have hS : va_S A s.heap s.heap [] := va_S.rf
  have hl : lv_has ls 1 [(0, .ref a0)] := hl
  have in_X9 : ∀ w ∈ u_ws RX9 TX9 45, w ∈ wsX9_assignmentTotal := by decide +kernel
  have lk_1 := hts (.fieldLink RX9 1 "BalloonMailModel" "thrown" "I") (by decide +kernel)
  have lk_29 := hts (.fieldLink RX9 29 "BalloonMailModel" "winds" "[I") (by decide +kernel)
  have lk_85 := hts (.fieldLink RX9 85 "BalloonMailModel" "total" "[J") (by decide +kernel)
  unfold f_X9_assignmentTotal at hf
  refine lv_aload_n hx hb dX9_assignmentTotal_0 rfl (lv_at hl 0 rfl) ?_
  refine lv_iconst (v := 0) hx hb dX9_assignmentTotal_1 (by decide) ?_
  refine va_put (D := D) (ci := 9) (v := .int 0) (ty := .int) (C := RX9) (T := TX9) (N := 45) hx hb hts in_X9 tyX9 tyX9_ok nmX9 hown hK hP hD hS 0 rfl rfl 0 (by decide) lk_1 (fun _ h9 => h9) rfl (by decide +kernel) rfl rfl (Nat.le_of_ble_eq_true rfl) dX9_assignmentTotal_2 (fun H locs hP hD hS => ?_)
  have hP : va_P D vwCl (w_X9_assignmentTotal kc a0 a1 a2 a3 a4 a5 a6 a7 a8 a9 a10 a11 a12 a13 a14 a15 a16 a17 a18 a19 a20 a21 a22 a23 a24 a25 a26 a27 a28 0 loftSize startWind seed draftLoft draftStart draftSeed length textSize start next_ token value error errorAt number undos winds balloons room_ pigeons now chance turns turnFrom turnWeight chanceNext turnTo regions named namedWeight namedRegion risk comesBack worth total) H := hP
  have hD : va_D A (w_X9_assignmentTotal kc a0 a1 a2 a3 a4 a5 a6 a7 a8 a9 a10 a11 a12 a13 a14 a15 a16 a17 a18 a19 a20 a21 a22 a23 a24 a25 a26 a27 a28 0 loftSize startWind seed draftLoft draftStart draftSeed length textSize start next_ token value error errorAt number undos winds balloons room_ pigeons now chance turns turnFrom turnWeight chanceNext turnTo regions named namedWeight namedRegion risk comesBack worth total) := hD
  refine lv_aload_n hx hb dX9_assignmentTotal_5 rfl (lv_at hl 0 rfl) ?_
  refine va_get (D := D) (ci := 9) (v := .ref a6) (C := RX9) (T := TX9) (N := 45) hx hb hts in_X9 hown hK hP 0 rfl rfl 6 (by decide) lk_29 (fun _ h9 => h9) rfl dX9_assignmentTotal_6 ?_
  refine lv_iconst (v := 0) hx hb dX9_assignmentTotal_9 (by decide) ?_
  obtain ⟨hi, hf⟩ := gIx_some hf
  refine va_iald hx hb hK hP 1 1 rfl rfl hi dX9_assignmentTotal_10 ?_
  refine lv_if_ne (tgt := 18) hx hb dX9_assignmentTotal_11 (by decide) (fun hc => ?_) (fun hc => ?_)
  · have hf := o_f hc hf
    refine lv_aload_n hx hb dX9_assignmentTotal_18 rfl (lv_at hl 0 rfl) ?_
    obtain ⟨chance_1, chanceNext_2, worth_3, total_4, hc, hf⟩ := ob4_some hf
    refine g_VV (As := []) (rest := []) (ws' := (w_X9_assignmentTotal kc a0 a1 a2 a3 a4 a5 a6 a7 a8 a9 a10 a11 a12 a13 a14 a15 a16 a17 a18 a19 a20 a21 a22 a23 a24 a25 a26 a27 a28 0 loftSize startWind seed draftLoft draftStart draftSeed length textSize start next_ token value error errorAt number undos winds balloons room_ pigeons now chance_1 turns turnFrom turnWeight chanceNext_2 turnTo regions named namedWeight namedRegion risk comesBack worth_3 total_4)) ⟨hx, hb, hml, hown, hts⟩ hN hK hP hD hS hA (c_X9_laysTotals l D kc N a0 a1 a2 a3 a4 a5 a6 a7 a8 a9 a10 a11 a12 a13 a14 a15 a16 a17 a18 a19 a20 a21 a22 a23 a24 a25 a26 a27 a28 0 loftSize startWind seed draftLoft draftStart draftSeed length textSize start next_ token value error errorAt number undos balloons room_ pigeons now chance turns turnFrom turnWeight chanceNext turnTo winds regions named namedWeight namedRegion risk comesBack worth total chance_1 chanceNext_2 worth_3 total_4 hc) (cwV 0 hts gX9_assignmentTotal_X9_laysTotals rfl rfl rfl (by decide +kernel) ⟨Nat.le_of_ble_eq_true rfl, Nat.le_of_ble_eq_true rfl⟩) [0, 2, 3, 4, 5, 6, 7, 8, 9, 10, 11, 1, 12, 13, 14, 15, 16, 17, 18, 19] [] [0, 11, 1, 2, 3, 4, 5, 6, 7, 8, 9, 10, 12, 13, 14, 15, 16, 17, 18, 19] (by exact ⟨rfl, rfl, by decide, rfl⟩) 0 9 rfl rfl rfl rfl hl.1 rfl (Nat.le_of_ble_eq_true rfl) dX9_assignmentTotal_19 ⟨Nat.le_refl _, Nat.le_refl _⟩ (fun H locs hP hD hS => ?_)
    refine lv_aload_n hx hb dX9_assignmentTotal_22 rfl (lv_at hl 0 rfl) ?_
    refine va_get (D := D) (ci := 9) (v := .ref a23) (C := RX9) (T := TX9) (N := 45) hx hb hts in_X9 hown hK hP 0 rfl rfl 38 (by decide) lk_85 (fun _ h9 => h9) rfl dX9_assignmentTotal_23 ?_
    refine lv_sipush (v := 511) hx hb dX9_assignmentTotal_26 (by decide) ?_
    obtain ⟨hi, hf⟩ := gIx_some hf
    refine va_lald hx hb hK hP 19 2 rfl rfl hi dX9_assignmentTotal_29 ?_
    cases hf
    exact kR _ _ _ _ hP hD hS dX9_assignmentTotal_30
  · have hf := o_t hc hf
    refine lv_ldc2 (v := (-1)) hx hb hown (hts (.constantLong RX9 261 (-1)) (by decide +kernel)) dX9_assignmentTotal_14 ?_
    cases hf
    exact kR _ _ _ _ hP hD hS dX9_assignmentTotal_17
abbrev w_X9_firstDay (kc : Nat → ClassId) (a0 a1 a2 a3 a4 a5 a6 a7 a8 a9 a10 a11 a12 a13 a14 a15 a16 a17 a18 a19 a20 a21 a22 a23 a24 a25 a26 a27 a28 : Nat) (thrown : Int32) (loftSize : Int32) (startWind : Int32) (seed : Int32) (draftLoft : Int32) (draftStart : Int32) (draftSeed : Int32) (length : Int32) (textSize : Int32) (start : Int32) (next_ : Int32) (token : Int32) (value : Int32) (error : Int32) (errorAt : Int32) (number : Int32) (undos : Int32) (now : Nat → Int32) (worth : Nat → Int64) (total : Nat → Int64) : va_W := [(a0, .inr (9, [.int thrown, .ref a1, .ref a2, .ref a3, .ref a4, .ref a5, .ref a6, .ref a7, .ref a8, .ref a9, .ref a10, .ref a11, .ref a12, .ref a13, .ref a14, .ref a15, .ref a16, .ref a17, .ref a18, .ref a19, .int loftSize, .int startWind, .int seed, .int draftLoft, .int draftStart, .int draftSeed, .ref a20, .int length, .int textSize, .int start, .int next_, .int token, .int value, .int error, .int errorAt, .int number, .ref a21, .ref a22, .ref a23, .ref a24, .ref a25, .int undos, .ref a26, .ref a27, .ref a28])), (a1, .inl (kc 1, 213, .inl now)), (a24, .inl (kc 2, 90, .inr (.inl worth))), (a23, .inl (kc 2, 5632, .inr (.inl total)))]
set_option maxHeartbeats 4000000 in
set_option maxRecDepth 100000 in
theorem c_X9_firstDay (l : Launch) (D : va_G) (kc : Nat → ClassId) (N : Nat) (a0 a1 a2 a3 a4 a5 a6 a7 a8 a9 a10 a11 a12 a13 a14 a15 a16 a17 a18 a19 a20 a21 a22 a23 a24 a25 a26 a27 a28 : Nat) (thrown : Int32) (loftSize : Int32) (startWind : Int32) (seed : Int32) (draftLoft : Int32) (draftStart : Int32) (draftSeed : Int32) (length : Int32) (textSize : Int32) (start : Int32) (next_ : Int32) (token : Int32) (value : Int32) (error : Int32) (errorAt : Int32) (number : Int32) (undos : Int32) (now : Nat → Int32) (worth : Nat → Int64) (total : Nat → Int64) (x1 : Int32) (x2 : Int32) (r_ : Int32) (hf : f_X9_firstDay N now worth total x1 x2 = some r_) : MI l yX9_firstDay wsX9_firstDay ({ frames := 1, cells := 0, slots := 0, locals := 21 }) D kc [.ref a0, .int x1, .int x2] (w_X9_firstDay kc a0 a1 a2 a3 a4 a5 a6 a7 a8 a9 a10 a11 a12 a13 a14 a15 a16 a17 a18 a19 a20 a21 a22 a23 a24 a25 a26 a27 a28 thrown loftSize startWind seed draftLoft draftStart draftSeed length textSize start next_ token value error errorAt number undos now worth total) (w_X9_firstDay kc a0 a1 a2 a3 a4 a5 a6 a7 a8 a9 a10 a11 a12 a13 a14 a15 a16 a17 a18 a19 a20 a21 a22 a23 a24 a25 a26 a27 a28 thrown loftSize startWind seed draftLoft draftStart draftSeed length textSize start next_ token value error errorAt number undos now worth total) r_ := by
  refine gM_I (cc := cX9_firstDay) (maxL := 4) (by decide) rfl (Nat.le_of_ble_eq_true rfl) ?_
  intro p e s m below meth c A ls Q hx hb hml hown hts hN hK hP hD hA hl kR
  have hS : va_S A s.heap s.heap [] := va_S.rf
  have hl : lv_has ls 4 [(0, .ref a0), (1, .int x1), (2, .int x2)] := hl
  have in_X9 : ∀ w ∈ u_ws RX9 TX9 45, w ∈ wsX9_firstDay := by decide +kernel
  have lk_13 := hts (.fieldLink RX9 13 "BalloonMailModel" "now" "[I") (by decide +kernel)
  have lk_88 := hts (.fieldLink RX9 88 "BalloonMailModel" "worth" "[J") (by decide +kernel)
  have lk_85 := hts (.fieldLink RX9 85 "BalloonMailModel" "total" "[J") (by decide +kernel)
  unfold f_X9_firstDay at hf
  refine lv_aload_n hx hb dX9_firstDay_0 rfl (lv_at hl 0 rfl) ?_
  refine va_get (D := D) (ci := 9) (v := .ref a1) (C := RX9) (T := TX9) (N := 45) hx hb hts in_X9 hown hK hP 0 rfl rfl 1 (by decide) lk_13 (fun _ h9 => h9) rfl dX9_firstDay_1 ?_
  refine lv_iconst (v := 5) hx hb dX9_firstDay_4 (by decide) ?_
  refine lv_iload_n hx hb dX9_firstDay_5 rfl (lv_at hl 1 rfl) ?_
  refine lv_iadd hx hb dX9_firstDay_6 ?_
  obtain ⟨hi, hf⟩ := gIx_some hf
  refine va_iald hx hb hK hP 1 1 rfl rfl hi dX9_firstDay_7 ?_
  refine lv_if_eq (tgt := 14) hx hb dX9_firstDay_8 (by decide) (fun hc => ?_) (fun hc => ?_)
  · have hf := o_t hc hf
    refine lv_iconst (v := 0) hx hb dX9_firstDay_14 (by decide) ?_
    refine lv_istore_n (lv' := [(3, .int 0), (0, .ref a0), (1, .int x1), (2, .int x2)]) hx hb dX9_firstDay_15 rfl hl (by decide) rfl (fun ls hl => ?_)
    have L16 : ∀ (n : Nat) (y3_16 : Int32), f_X9_firstDay_16 N worth total x1 x2 n y3_16 = some r_ → ∀ (H : Heap) (locs : List Loc) (ls : Array Slot), va_P D vwCl (w_X9_firstDay kc a0 a1 a2 a3 a4 a5 a6 a7 a8 a9 a10 a11 a12 a13 a14 a15 a16 a17 a18 a19 a20 a21 a22 a23 a24 a25 a26 a27 a28 thrown loftSize startWind seed draftLoft draftStart draftSeed length textSize start next_ token value error errorAt number undos now worth total) H → va_D A (w_X9_firstDay kc a0 a1 a2 a3 a4 a5 a6 a7 a8 a9 a10 a11 a12 a13 a14 a15 a16 a17 a18 a19 a20 a21 a22 a23 a24 a25 a26 a27 a28 thrown loftSize startWind seed draftLoft draftStart draftSeed length textSize start next_ token value error errorAt number undos now worth total) → va_S A s.heap H locs → lv_has ls 4 [(0, .ref a0), (1, .int x1), (2, .int x2), (3, .int y3_16)] → W p l e ({ frames := 1, cells := 0, slots := 0, locals := 21 }) s m (([.ref a0, .int x1, .int x2] : List Value).toArray) below meth c H locs 0 0 Q (F0 m 16 ls []) := by
      clear hf
      intro n
      induction n with
      | zero => intro _ hf; rw [f_X9_firstDay_16.eq_1] at hf; cases hf
      | succ n ih =>
        intro y3_16 hf H locs ls hP hD hS hl
        rw [f_X9_firstDay_16.eq_2] at hf
        refine lv_iload_n hx hb dX9_firstDay_16 rfl (lv_at hl 3 rfl) ?_
        refine lv_bipush (v := 9) hx hb dX9_firstDay_17 (by decide) ?_
        refine lv_icmp_ge (tgt := 86) hx hb dX9_firstDay_19 (by decide) (fun hc => ?_) (fun hc => ?_)
        · have hf := o_t hc hf
          refine lv_bipush (v := (-2)) hx hb dX9_firstDay_86 (by decide) ?_
          cases hf
          exact kR _ _ _ _ hP hD hS dX9_firstDay_88
        · have hf := o_f hc hf
          refine lv_iload_n hx hb dX9_firstDay_22 rfl (lv_at hl 2 rfl) ?_
          refine lv_iload_n hx hb dX9_firstDay_23 rfl (lv_at hl 3 rfl) ?_
          obtain ⟨r_1, hc, hf⟩ := ob1_some hf
          refine g_SZ (As := [.int x2, .int y3_16]) (rest := []) (ws' := (w_X9_firstDay kc a0 a1 a2 a3 a4 a5 a6 a7 a8 a9 a10 a11 a12 a13 a14 a15 a16 a17 a18 a19 a20 a21 a22 a23 a24 a25 a26 a27 a28 thrown loftSize startWind seed draftLoft draftStart draftSeed length textSize start next_ token value error errorAt number undos now worth total)) ⟨hx, hb, hml, hown, hts⟩ hN hK hP hD hS hA (c_X9_has l D kc N x2 y3_16 r_1 hc) (va_cwS 2 hts gX9_firstDay_X9_has rfl rfl rfl (by decide +kernel) ⟨Nat.le_of_ble_eq_true rfl, Nat.le_of_ble_eq_true rfl⟩) [] [0, 1, 2, 3] [0, 1, 2, 3] (by exact ⟨rfl, rfl, by decide, rfl⟩) rfl hl.1 rfl (Nat.le_of_ble_eq_true rfl) dX9_firstDay_24 ⟨Nat.le_refl _, Nat.le_refl _⟩ (fun H locs hz hP hD hS => ?_)
          have hz_2 := hz
          refine lv_if_eq (tgt := 80) hx hb dX9_firstDay_27 (by decide) (fun hc => ?_) (fun hc => ?_)
          · have hf := o_t hc hf
            refine lv_iinc (v := (y3_16 + 1)) (lv' := [(3, .int (y3_16 + 1)), (0, .ref a0), (1, .int x1), (2, .int x2)]) hx hb dX9_firstDay_80 hl (k := 3) rfl (by rfl) (by decide) rfl (fun ls hl => ?_)
            refine lv_goto (tgt := 16) hx hb dX9_firstDay_83 (by decide) ?_
            exact ih _ hf _ _ _ hP hD hS (lv_sub hl [1, 2, 3, 0] rfl)
          · have hf := o_f hc hf
            refine lv_aload_n hx hb dX9_firstDay_30 rfl (lv_at hl 0 rfl) ?_
            refine va_get (D := D) (ci := 9) (v := .ref a24) (C := RX9) (T := TX9) (N := 45) hx hb hts in_X9 hown hK hP 0 rfl rfl 39 (by decide) lk_88 (fun _ h9 => h9) rfl dX9_firstDay_31 ?_
            refine lv_bipush (v := 9) hx hb dX9_firstDay_34 (by decide) ?_
            refine lv_iload_n hx hb dX9_firstDay_36 rfl (lv_at hl 1 rfl) ?_
            refine lv_imul hx hb dX9_firstDay_37 ?_
            refine lv_iload_n hx hb dX9_firstDay_38 rfl (lv_at hl 3 rfl) ?_
            refine lv_iadd hx hb dX9_firstDay_39 ?_
            obtain ⟨hi, hf⟩ := gIx_some hf
            refine va_lald hx hb hK hP 2 2 rfl rfl hi dX9_firstDay_40 ?_
            refine lv_aload_n hx hb dX9_firstDay_41 rfl (lv_at hl 0 rfl) ?_
            refine va_get (D := D) (ci := 9) (v := .ref a23) (C := RX9) (T := TX9) (N := 45) hx hb hts in_X9 hown hK hP 0 rfl rfl 38 (by decide) lk_85 (fun _ h9 => h9) rfl dX9_firstDay_42 ?_
            refine lv_sipush (v := 512) hx hb dX9_firstDay_45 (by decide) ?_
            refine lv_iload_n hx hb dX9_firstDay_48 rfl (lv_at hl 1 rfl) ?_
            refine lv_iconst (v := 1) hx hb dX9_firstDay_49 (by decide) ?_
            refine lv_iadd hx hb dX9_firstDay_50 ?_
            refine lv_imul hx hb dX9_firstDay_51 ?_
            refine lv_iload_n hx hb dX9_firstDay_52 rfl (lv_at hl 2 rfl) ?_
            refine lv_iconst (v := 1) hx hb dX9_firstDay_53 (by decide) ?_
            refine lv_iload_n hx hb dX9_firstDay_54 rfl (lv_at hl 3 rfl) ?_
            refine lv_ishl hx hb dX9_firstDay_55 ?_
            refine lv_iconst (v := (-1)) hx hb dX9_firstDay_56 (by decide) ?_
            refine lv_ixor hx hb dX9_firstDay_57 ?_
            refine lv_iand hx hb dX9_firstDay_58 ?_
            refine lv_iadd hx hb dX9_firstDay_59 ?_
            obtain ⟨hi, hf⟩ := gIx_some hf
            refine va_lald hx hb hK hP 3 2 rfl rfl hi dX9_firstDay_60 ?_
            refine lv_ladd hx hb dX9_firstDay_61 ?_
            refine lv_aload_n hx hb dX9_firstDay_62 rfl (lv_at hl 0 rfl) ?_
            refine va_get (D := D) (ci := 9) (v := .ref a23) (C := RX9) (T := TX9) (N := 45) hx hb hts in_X9 hown hK hP 0 rfl rfl 38 (by decide) lk_85 (fun _ h9 => h9) rfl dX9_firstDay_63 ?_
            refine lv_sipush (v := 512) hx hb dX9_firstDay_66 (by decide) ?_
            refine lv_iload_n hx hb dX9_firstDay_69 rfl (lv_at hl 1 rfl) ?_
            refine lv_imul hx hb dX9_firstDay_70 ?_
            refine lv_iload_n hx hb dX9_firstDay_71 rfl (lv_at hl 2 rfl) ?_
            refine lv_iadd hx hb dX9_firstDay_72 ?_
            obtain ⟨hi, hf⟩ := gIx_some hf
            refine va_lald hx hb hK hP 3 2 rfl rfl hi dX9_firstDay_73 ?_
            refine W.lcmp hx hb dX9_firstDay_74 ?_
            refine lv_if_ne (tgt := 80) hx hb dX9_firstDay_75 (by decide) (fun hc => ?_) (fun hc => ?_)
            · have hf := o_f hc hf
              refine lv_iinc (v := (y3_16 + 1)) (lv' := [(3, .int (y3_16 + 1)), (0, .ref a0), (1, .int x1), (2, .int x2)]) hx hb dX9_firstDay_80 hl (k := 3) rfl (by rfl) (by decide) rfl (fun ls hl => ?_)
              refine lv_goto (tgt := 16) hx hb dX9_firstDay_83 (by decide) ?_
              exact ih _ hf _ _ _ hP hD hS (lv_sub hl [1, 2, 3, 0] rfl)
            · have hf := o_t hc hf
              refine lv_iload_n hx hb dX9_firstDay_78 rfl (lv_at hl 3 rfl) ?_
              cases hf
              exact kR _ _ _ _ hP hD hS dX9_firstDay_79
    exact L16 N _ hf _ _ _ hP hD hS (lv_sub hl [1, 2, 3, 0] rfl)
  · have hf := o_f hc hf
    refine lv_bipush (v := (-2)) hx hb dX9_firstDay_11 (by decide) ?_
    cases hf
    exact kR _ _ _ _ hP hD hS dX9_firstDay_13
abbrev w_X9_assignedDay (kc : Nat → ClassId) (a0 a1 a2 a3 a4 a5 a6 a7 a8 a9 a10 a11 a12 a13 a14 a15 a16 a17 a18 a19 a20 a21 a22 a23 a24 a25 a26 a27 a28 : Nat) (thrown : Int32) (loftSize : Int32) (startWind : Int32) (seed : Int32) (draftLoft : Int32) (draftStart : Int32) (draftSeed : Int32) (length : Int32) (textSize : Int32) (start : Int32) (next_ : Int32) (token : Int32) (value : Int32) (error : Int32) (errorAt : Int32) (number : Int32) (undos : Int32) (balloons : Nat → Int32) (winds : Nat → Int32) (room_ : Nat → Int32) (pigeons : Nat → Int32) (now : Nat → Int32) (chance : Nat → Int64) (turns : Nat → Int32) (turnFrom : Nat → Int32) (turnWeight : Nat → Int32) (chanceNext : Nat → Int64) (turnTo : Nat → Int32) (regions : Nat → Int32) (named : Nat → Int32) (namedWeight : Nat → Int32) (namedRegion : Nat → Int32) (risk : Nat → Int32) (comesBack : Nat → Int32) (worth : Nat → Int64) (total : Nat → Int64) : va_W := [(a0, .inr (9, [.int thrown, .ref a1, .ref a2, .ref a3, .ref a4, .ref a5, .ref a6, .ref a7, .ref a8, .ref a9, .ref a10, .ref a11, .ref a12, .ref a13, .ref a14, .ref a15, .ref a16, .ref a17, .ref a18, .ref a19, .int loftSize, .int startWind, .int seed, .int draftLoft, .int draftStart, .int draftSeed, .ref a20, .int length, .int textSize, .int start, .int next_, .int token, .int value, .int error, .int errorAt, .int number, .ref a21, .ref a22, .ref a23, .ref a24, .ref a25, .int undos, .ref a26, .ref a27, .ref a28])), (a14, .inl (kc 1, 2, .inl balloons)), (a6, .inl (kc 1, 2, .inl winds)), (a15, .inl (kc 1, 20, .inl room_)), (a16, .inl (kc 1, 20, .inl pigeons)), (a1, .inl (kc 1, 213, .inl now)), (a21, .inl (kc 2, 6, .inr (.inl chance))), (a10, .inl (kc 1, 2, .inl turns)), (a11, .inl (kc 1, 60, .inl turnFrom)), (a13, .inl (kc 1, 60, .inl turnWeight)), (a22, .inl (kc 2, 6, .inr (.inl chanceNext))), (a12, .inl (kc 1, 60, .inl turnTo)), (a2, .inl (kc 1, 2, .inl regions)), (a7, .inl (kc 1, 12, .inl named)), (a9, .inl (kc 1, 96, .inl namedWeight)), (a8, .inl (kc 1, 96, .inl namedRegion)), (a3, .inl (kc 1, 16, .inl risk)), (a5, .inl (kc 1, 16, .inl comesBack)), (a24, .inl (kc 2, 90, .inr (.inl worth))), (a23, .inl (kc 2, 5632, .inr (.inl total)))]
set_option maxHeartbeats 4000000 in
set_option maxRecDepth 100000 in
theorem c_X9_assignedDay (l : Launch) (D : va_G) (kc : Nat → ClassId) (N : Nat) (a0 a1 a2 a3 a4 a5 a6 a7 a8 a9 a10 a11 a12 a13 a14 a15 a16 a17 a18 a19 a20 a21 a22 a23 a24 a25 a26 a27 a28 : Nat) (thrown : Int32) (loftSize : Int32) (startWind : Int32) (seed : Int32) (draftLoft : Int32) (draftStart : Int32) (draftSeed : Int32) (length : Int32) (textSize : Int32) (start : Int32) (next_ : Int32) (token : Int32) (value : Int32) (error : Int32) (errorAt : Int32) (number : Int32) (undos : Int32) (balloons : Nat → Int32) (winds : Nat → Int32) (room_ : Nat → Int32) (pigeons : Nat → Int32) (now : Nat → Int32) (chance : Nat → Int64) (turns : Nat → Int32) (turnFrom : Nat → Int32) (turnWeight : Nat → Int32) (chanceNext : Nat → Int64) (turnTo : Nat → Int32) (regions : Nat → Int32) (named : Nat → Int32) (namedWeight : Nat → Int32) (namedRegion : Nat → Int32) (risk : Nat → Int32) (comesBack : Nat → Int32) (worth : Nat → Int64) (total : Nat → Int64) (x1 : Int32) (r_ : Int32) (thrown' : Int32) (chance' : Nat → Int64) (chanceNext' : Nat → Int64) (worth' : Nat → Int64) (total' : Nat → Int64) (hf : f_X9_assignedDay N balloons winds room_ pigeons now chance turns turnFrom turnWeight chanceNext turnTo regions named namedWeight namedRegion risk comesBack worth total x1 = some (r_, thrown', chance', chanceNext', worth', total')) : MI l yX9_assignedDay wsX9_assignedDay ({ frames := 5, cells := 0, slots := 0, locals := 119 }) D kc [.ref a0, .int x1] (w_X9_assignedDay kc a0 a1 a2 a3 a4 a5 a6 a7 a8 a9 a10 a11 a12 a13 a14 a15 a16 a17 a18 a19 a20 a21 a22 a23 a24 a25 a26 a27 a28 thrown loftSize startWind seed draftLoft draftStart draftSeed length textSize start next_ token value error errorAt number undos balloons winds room_ pigeons now chance turns turnFrom turnWeight chanceNext turnTo regions named namedWeight namedRegion risk comesBack worth total) (w_X9_assignedDay kc a0 a1 a2 a3 a4 a5 a6 a7 a8 a9 a10 a11 a12 a13 a14 a15 a16 a17 a18 a19 a20 a21 a22 a23 a24 a25 a26 a27 a28 thrown' loftSize startWind seed draftLoft draftStart draftSeed length textSize start next_ token value error errorAt number undos balloons winds room_ pigeons now chance' turns turnFrom turnWeight chanceNext' turnTo regions named namedWeight namedRegion risk comesBack worth' total') r_ := by
  refine gM_I (cc := cX9_assignedDay) (maxL := 5) (by decide) rfl (Nat.le_of_ble_eq_true rfl) ?_
  intro p e s m below meth c A ls Q hx hb hml hown hts hN hK hP hD hA hl kR
  have hS : va_S A s.heap s.heap [] := va_S.rf
  have hl : lv_has ls 5 [(0, .ref a0), (1, .int x1)] := hl
  have in_X9 : ∀ w ∈ u_ws RX9 TX9 45, w ∈ wsX9_assignedDay := by decide +kernel
  have lk_1 := hts (.fieldLink RX9 1 "BalloonMailModel" "thrown" "I") (by decide +kernel)
  have lk_29 := hts (.fieldLink RX9 29 "BalloonMailModel" "winds" "[I") (by decide +kernel)
  unfold f_X9_assignedDay at hf
  refine lv_aload_n hx hb dX9_assignedDay_0 rfl (lv_at hl 0 rfl) ?_
  refine lv_iconst (v := 0) hx hb dX9_assignedDay_1 (by decide) ?_
  refine va_put (D := D) (ci := 9) (v := .int 0) (ty := .int) (C := RX9) (T := TX9) (N := 45) hx hb hts in_X9 tyX9 tyX9_ok nmX9 hown hK hP hD hS 0 rfl rfl 0 (by decide) lk_1 (fun _ h9 => h9) rfl (by decide +kernel) rfl rfl (Nat.le_of_ble_eq_true rfl) dX9_assignedDay_2 (fun H locs hP hD hS => ?_)
  have hP : va_P D vwCl (w_X9_assignedDay kc a0 a1 a2 a3 a4 a5 a6 a7 a8 a9 a10 a11 a12 a13 a14 a15 a16 a17 a18 a19 a20 a21 a22 a23 a24 a25 a26 a27 a28 0 loftSize startWind seed draftLoft draftStart draftSeed length textSize start next_ token value error errorAt number undos balloons winds room_ pigeons now chance turns turnFrom turnWeight chanceNext turnTo regions named namedWeight namedRegion risk comesBack worth total) H := hP
  have hD : va_D A (w_X9_assignedDay kc a0 a1 a2 a3 a4 a5 a6 a7 a8 a9 a10 a11 a12 a13 a14 a15 a16 a17 a18 a19 a20 a21 a22 a23 a24 a25 a26 a27 a28 0 loftSize startWind seed draftLoft draftStart draftSeed length textSize start next_ token value error errorAt number undos balloons winds room_ pigeons now chance turns turnFrom turnWeight chanceNext turnTo regions named namedWeight namedRegion risk comesBack worth total) := hD
  refine lv_aload_n hx hb dX9_assignedDay_5 rfl (lv_at hl 0 rfl) ?_
  refine lv_iload_n hx hb dX9_assignedDay_6 rfl (lv_at hl 1 rfl) ?_
  obtain ⟨r_1, hc, hf⟩ := ob1_some hf
  refine g_VZ (As := [.int x1]) (rest := []) (ws' := (w_X9_assignedDay kc a0 a1 a2 a3 a4 a5 a6 a7 a8 a9 a10 a11 a12 a13 a14 a15 a16 a17 a18 a19 a20 a21 a22 a23 a24 a25 a26 a27 a28 0 loftSize startWind seed draftLoft draftStart draftSeed length textSize start next_ token value error errorAt number undos balloons winds room_ pigeons now chance turns turnFrom turnWeight chanceNext turnTo regions named namedWeight namedRegion risk comesBack worth total)) ⟨hx, hb, hml, hown, hts⟩ hN hK hP hD hS hA (c_X9_isBalloon l D kc N a0 a1 a2 a3 a4 a5 a6 a7 a8 a9 a10 a11 a12 a13 a14 a15 a16 a17 a18 a19 a20 a21 a22 a23 a24 a25 a26 a27 a28 0 loftSize startWind seed draftLoft draftStart draftSeed length textSize start next_ token value error errorAt number undos balloons x1 r_1 hc) (cwV 1 hts gX9_assignedDay_X9_isBalloon rfl rfl rfl (by decide +kernel) ⟨Nat.le_of_ble_eq_true rfl, Nat.le_of_ble_eq_true rfl⟩) [0, 1] [2, 3, 4, 5, 6, 7, 8, 9, 10, 11, 12, 13, 14, 15, 16, 17, 18, 19] [18, 19, 0, 1, 2, 3, 4, 5, 6, 7, 8, 9, 10, 11, 12, 13, 14, 15, 16, 17] (by exact ⟨rfl, rfl, by decide, rfl⟩) 0 9 rfl rfl rfl rfl hl.1 rfl (Nat.le_of_ble_eq_true rfl) dX9_assignedDay_7 ⟨Nat.le_refl _, Nat.le_refl _⟩ (fun H locs hz hP hD hS => ?_)
  have hz_2 := hz
  refine lv_if_eq (tgt := 22) hx hb dX9_assignedDay_10 (by decide) (fun hc => ?_) (fun hc => ?_)
  · have hf := o_t hc hf
    refine lv_iconst (v := (-1)) hx hb dX9_assignedDay_22 (by decide) ?_
    cases hf
    exact kR _ _ _ _ hP hD hS dX9_assignedDay_23
  · have hf := o_f hc hf
    refine lv_aload_n hx hb dX9_assignedDay_13 rfl (lv_at hl 0 rfl) ?_
    refine va_get (D := D) (ci := 9) (v := .ref a6) (C := RX9) (T := TX9) (N := 45) hx hb hts in_X9 hown hK hP 0 rfl rfl 6 (by decide) lk_29 (fun _ h9 => h9) rfl dX9_assignedDay_14 ?_
    refine lv_iconst (v := 0) hx hb dX9_assignedDay_17 (by decide) ?_
    obtain ⟨hi, hf⟩ := gIx_some hf
    refine va_iald hx hb hK hP 2 1 rfl rfl hi dX9_assignedDay_18 ?_
    refine lv_if_ne (tgt := 24) hx hb dX9_assignedDay_19 (by decide) (fun hc => ?_) (fun hc => ?_)
    · have hf := o_f hc hf
      refine lv_aload_n hx hb dX9_assignedDay_24 rfl (lv_at hl 0 rfl) ?_
      obtain ⟨chance_3, chanceNext_4, worth_5, total_6, hc, hf⟩ := ob4_some hf
      refine g_VV (As := []) (rest := []) (ws' := (w_X9_assignedDay kc a0 a1 a2 a3 a4 a5 a6 a7 a8 a9 a10 a11 a12 a13 a14 a15 a16 a17 a18 a19 a20 a21 a22 a23 a24 a25 a26 a27 a28 0 loftSize startWind seed draftLoft draftStart draftSeed length textSize start next_ token value error errorAt number undos balloons winds room_ pigeons now chance_3 turns turnFrom turnWeight chanceNext_4 turnTo regions named namedWeight namedRegion risk comesBack worth_5 total_6)) ⟨hx, hb, hml, hown, hts⟩ hN hK hP hD hS hA (c_X9_laysTotals l D kc N a0 a1 a2 a3 a4 a5 a6 a7 a8 a9 a10 a11 a12 a13 a14 a15 a16 a17 a18 a19 a20 a21 a22 a23 a24 a25 a26 a27 a28 0 loftSize startWind seed draftLoft draftStart draftSeed length textSize start next_ token value error errorAt number undos balloons room_ pigeons now chance turns turnFrom turnWeight chanceNext turnTo winds regions named namedWeight namedRegion risk comesBack worth total chance_3 chanceNext_4 worth_5 total_6 hc) (cwV 0 hts gX9_assignedDay_X9_laysTotals rfl rfl rfl (by decide +kernel) ⟨Nat.le_of_ble_eq_true rfl, Nat.le_of_ble_eq_true rfl⟩) [0, 1, 3, 4, 5, 6, 7, 8, 9, 10, 11, 2, 12, 13, 14, 15, 16, 17, 18, 19] [] [0, 1, 11, 2, 3, 4, 5, 6, 7, 8, 9, 10, 12, 13, 14, 15, 16, 17, 18, 19] (by exact ⟨rfl, rfl, by decide, rfl⟩) 0 9 rfl rfl rfl rfl hl.1 rfl (Nat.le_of_ble_eq_true rfl) dX9_assignedDay_25 ⟨Nat.le_refl _, Nat.le_refl _⟩ (fun H locs hP hD hS => ?_)
      refine lv_sipush (v := 511) hx hb dX9_assignedDay_28 (by decide) ?_
      refine lv_istore_n (lv' := [(2, .int 511), (0, .ref a0), (1, .int x1)]) hx hb dX9_assignedDay_31 rfl hl (by decide) rfl (fun ls hl => ?_)
      refine lv_bipush (v := (-2)) hx hb dX9_assignedDay_32 (by decide) ?_
      refine lv_istore_n (lv' := [(3, .int (-2)), (2, .int 511), (0, .ref a0), (1, .int x1)]) hx hb dX9_assignedDay_34 rfl hl (by decide) rfl (fun ls hl => ?_)
      refine lv_iconst (v := 0) hx hb dX9_assignedDay_35 (by decide) ?_
      refine lv_istore (lv' := [(4, .int 0), (3, .int (-2)), (2, .int 511), (0, .ref a0), (1, .int x1)]) hx hb dX9_assignedDay_36 hl (by decide) rfl (fun ls hl => ?_)
      have L38 : ∀ (thrown_f38 : Int32) (n : Nat) (y4_38 : Int32) (y3_38 : Int32) (y2_38 : Int32) (y4_38o : Int32) (y3_38o : Int32) (y2_38o : Int32), f_X9_assignedDay_38 N now x1 worth_5 total_6 n y4_38 y3_38 y2_38 = some (y4_38o, y3_38o, y2_38o) → (∀ (H : Heap) (locs : List Loc) (ls : Array Slot), va_P D vwCl (w_X9_assignedDay kc a0 a1 a2 a3 a4 a5 a6 a7 a8 a9 a10 a11 a12 a13 a14 a15 a16 a17 a18 a19 a20 a21 a22 a23 a24 a25 a26 a27 a28 thrown_f38 loftSize startWind seed draftLoft draftStart draftSeed length textSize start next_ token value error errorAt number undos balloons winds room_ pigeons now chance_3 turns turnFrom turnWeight chanceNext_4 turnTo regions named namedWeight namedRegion risk comesBack worth_5 total_6) H → va_D A (w_X9_assignedDay kc a0 a1 a2 a3 a4 a5 a6 a7 a8 a9 a10 a11 a12 a13 a14 a15 a16 a17 a18 a19 a20 a21 a22 a23 a24 a25 a26 a27 a28 thrown_f38 loftSize startWind seed draftLoft draftStart draftSeed length textSize start next_ token value error errorAt number undos balloons winds room_ pigeons now chance_3 turns turnFrom turnWeight chanceNext_4 turnTo regions named namedWeight namedRegion risk comesBack worth_5 total_6) → va_S A s.heap H locs → lv_has ls 5 [(0, .ref a0), (1, .int x1), (2, .int y2_38o), (3, .int y3_38o), (4, .int y4_38o)] → W p l e ({ frames := 5, cells := 0, slots := 0, locals := 119 }) s m (([.ref a0, .int x1] : List Value).toArray) below meth c H locs 0 0 Q (F0 m 76 ls [])) → ∀ (H : Heap) (locs : List Loc) (ls : Array Slot), va_P D vwCl (w_X9_assignedDay kc a0 a1 a2 a3 a4 a5 a6 a7 a8 a9 a10 a11 a12 a13 a14 a15 a16 a17 a18 a19 a20 a21 a22 a23 a24 a25 a26 a27 a28 thrown_f38 loftSize startWind seed draftLoft draftStart draftSeed length textSize start next_ token value error errorAt number undos balloons winds room_ pigeons now chance_3 turns turnFrom turnWeight chanceNext_4 turnTo regions named namedWeight namedRegion risk comesBack worth_5 total_6) H → va_D A (w_X9_assignedDay kc a0 a1 a2 a3 a4 a5 a6 a7 a8 a9 a10 a11 a12 a13 a14 a15 a16 a17 a18 a19 a20 a21 a22 a23 a24 a25 a26 a27 a28 thrown_f38 loftSize startWind seed draftLoft draftStart draftSeed length textSize start next_ token value error errorAt number undos balloons winds room_ pigeons now chance_3 turns turnFrom turnWeight chanceNext_4 turnTo regions named namedWeight namedRegion risk comesBack worth_5 total_6) → va_S A s.heap H locs → lv_has ls 5 [(0, .ref a0), (1, .int x1), (2, .int y2_38), (3, .int y3_38), (4, .int y4_38)] → W p l e ({ frames := 5, cells := 0, slots := 0, locals := 119 }) s m (([.ref a0, .int x1] : List Value).toArray) below meth c H locs 0 0 Q (F0 m 38 ls []) := by
        intro thrown_f38 n
        induction n with
        | zero => intro _ _ _ _ _ _ hf; rw [f_X9_assignedDay_38.eq_1] at hf; cases hf
        | succ n ih =>
          intro y4_38 y3_38 y2_38 y4_38o y3_38o y2_38o hf hk H locs ls hP hD hS hl
          rw [f_X9_assignedDay_38.eq_2] at hf
          refine lv_iload hx hb dX9_assignedDay_38 (lv_at hl 4 rfl) ?_
          refine lv_iload_n hx hb dX9_assignedDay_40 rfl (lv_at hl 1 rfl) ?_
          refine lv_icmp_gt (tgt := 76) hx hb dX9_assignedDay_41 (by decide) (fun hc => ?_) (fun hc => ?_)
          · have hf := o_t hc hf
            cases hf
            exact hk _ _ _ hP hD hS (lv_sub hl [0, 1, 2, 3, 4] rfl)
          · have hf := o_f hc hf
            refine lv_aload_n hx hb dX9_assignedDay_44 rfl (lv_at hl 0 rfl) ?_
            refine lv_iload hx hb dX9_assignedDay_45 (lv_at hl 4 rfl) ?_
            refine lv_iload_n hx hb dX9_assignedDay_47 rfl (lv_at hl 2 rfl) ?_
            obtain ⟨r_7, hc, hf⟩ := ob1_some hf
            refine g_VI (As := [.int y4_38, .int y2_38]) (rest := []) (ws' := (w_X9_assignedDay kc a0 a1 a2 a3 a4 a5 a6 a7 a8 a9 a10 a11 a12 a13 a14 a15 a16 a17 a18 a19 a20 a21 a22 a23 a24 a25 a26 a27 a28 thrown_f38 loftSize startWind seed draftLoft draftStart draftSeed length textSize start next_ token value error errorAt number undos balloons winds room_ pigeons now chance_3 turns turnFrom turnWeight chanceNext_4 turnTo regions named namedWeight namedRegion risk comesBack worth_5 total_6)) ⟨hx, hb, hml, hown, hts⟩ hN hK hP hD hS hA (c_X9_firstDay l D kc N a0 a1 a2 a3 a4 a5 a6 a7 a8 a9 a10 a11 a12 a13 a14 a15 a16 a17 a18 a19 a20 a21 a22 a23 a24 a25 a26 a27 a28 thrown_f38 loftSize startWind seed draftLoft draftStart draftSeed length textSize start next_ token value error errorAt number undos now worth_5 total_6 y4_38 y2_38 r_7 hc) (cwV 2 hts gX9_assignedDay_X9_firstDay rfl rfl rfl (by decide +kernel) ⟨Nat.le_of_ble_eq_true rfl, Nat.le_of_ble_eq_true rfl⟩) [0, 5, 18, 19] [1, 2, 3, 4, 6, 7, 8, 9, 10, 11, 12, 13, 14, 15, 16, 17] [16, 0, 1, 2, 3, 17, 4, 5, 6, 7, 8, 9, 10, 11, 12, 13, 14, 15, 18, 19] (by exact ⟨rfl, rfl, by decide, rfl⟩) 0 9 rfl rfl rfl rfl hl.1 rfl (Nat.le_of_ble_eq_true rfl) dX9_assignedDay_48 ⟨Nat.le_refl _, Nat.le_refl _⟩ (fun H locs hP hD hS => ?_)
            refine lv_istore_n (lv' := [(3, .int r_7), (0, .ref a0), (1, .int x1), (2, .int y2_38), (4, .int y4_38)]) hx hb dX9_assignedDay_51 rfl hl (by decide) rfl (fun ls hl => ?_)
            refine lv_iload_n hx hb dX9_assignedDay_52 rfl (lv_at hl 3 rfl) ?_
            refine lv_iload_n hx hb dX9_assignedDay_53 rfl (lv_at hl 0 rfl) ?_
            refine lv_bipush (v := (-2)) hx hb dX9_assignedDay_54 (by decide) ?_
            refine lv_icmp_ne (tgt := 63) hx hb dX9_assignedDay_56 (by decide) (fun hc => ?_) (fun hc => ?_)
            · have hf := o_f hc hf
              refine lv_iconst (v := 1) hx hb dX9_assignedDay_63 (by decide) ?_
              refine lv_iload_n hx hb dX9_assignedDay_64 rfl (lv_at hl 0 rfl) ?_
              refine lv_ishl hx hb dX9_assignedDay_65 ?_
              refine lv_iconst (v := (-1)) hx hb dX9_assignedDay_66 (by decide) ?_
              refine lv_ixor hx hb dX9_assignedDay_67 ?_
              refine lv_iand hx hb dX9_assignedDay_68 ?_
              refine lv_istore_n (lv' := [(2, .int (y2_38 &&& (((1 : Int32) <<< ((r_7 : Int32) &&& 31)) ^^^ (-1)))), (3, .int r_7), (0, .ref a0), (1, .int x1), (4, .int y4_38)]) hx hb dX9_assignedDay_69 rfl hl (by decide) rfl (fun ls hl => ?_)
              refine lv_iinc (v := (y4_38 + 1)) (lv' := [(4, .int (y4_38 + 1)), (2, .int (y2_38 &&& (((1 : Int32) <<< ((r_7 : Int32) &&& 31)) ^^^ (-1)))), (3, .int r_7), (0, .ref a0), (1, .int x1)]) hx hb dX9_assignedDay_70 hl (k := 4) rfl (by rfl) (by decide) rfl (fun ls hl => ?_)
              refine lv_goto (tgt := 38) hx hb dX9_assignedDay_73 (by decide) ?_
              exact ih _ _ _ _ _ _ hf hk _ _ _ hP hD hS (lv_sub hl [3, 4, 1, 2, 0] rfl)
            · have hf := o_t hc hf
              refine lv_iload_n hx hb dX9_assignedDay_59 rfl (lv_at hl 3 rfl) ?_
              refine lv_goto (tgt := 68) hx hb dX9_assignedDay_60 (by decide) ?_
              refine lv_iand hx hb dX9_assignedDay_68 ?_
              refine lv_istore_n (lv' := [(2, .int (y2_38 &&& y2_38)), (3, .int r_7), (0, .ref a0), (1, .int x1), (4, .int y4_38)]) hx hb dX9_assignedDay_69 rfl hl (by decide) rfl (fun ls hl => ?_)
              refine lv_iinc (v := (y4_38 + 1)) (lv' := [(4, .int (y4_38 + 1)), (2, .int (y2_38 &&& y2_38)), (3, .int r_7), (0, .ref a0), (1, .int x1)]) hx hb dX9_assignedDay_70 hl (k := 4) rfl (by rfl) (by decide) rfl (fun ls hl => ?_)
              refine lv_goto (tgt := 38) hx hb dX9_assignedDay_73 (by decide) ?_
              exact ih _ _ _ _ _ _ hf hk _ _ _ hP hD hS (lv_sub hl [3, 4, 1, 2, 0] rfl)
      obtain ⟨y4_38o, y3_38o, y2_38o, hc, hf⟩ := ob3_some hf
      refine L38 0 N _ _ _ _ _ _ hc (fun H locs ls hP hD hS hl => ?_) _ _ _ hP hD hS (lv_sub hl [3, 4, 2, 1, 0] rfl)
      refine lv_iload_n hx hb dX9_assignedDay_76 rfl (lv_at hl 3 rfl) ?_
      cases hf
      exact kR _ _ _ _ hP hD hS dX9_assignedDay_77
    · have hf := o_t hc hf
      refine lv_iconst (v := (-1)) hx hb dX9_assignedDay_22 (by decide) ?_
      cases hf
      exact kR _ _ _ _ hP hD hS dX9_assignedDay_23
abbrev w_X9_lowest (kc : Nat → ClassId) (a0 a1 a2 a3 a4 a5 a6 a7 a8 a9 a10 a11 a12 a13 a14 a15 a16 a17 a18 a19 a20 a21 a22 a23 a24 a25 a26 a27 a28 : Nat) (thrown : Int32) (loftSize : Int32) (startWind : Int32) (seed : Int32) (draftLoft : Int32) (draftStart : Int32) (draftSeed : Int32) (length : Int32) (textSize : Int32) (start : Int32) (next_ : Int32) (token : Int32) (value : Int32) (error : Int32) (errorAt : Int32) (number : Int32) (undos : Int32) (best : Nat → Int32) (weight : Nat → Int32) (priority : Nat → Int32) : va_W := [(a0, .inr (9, [.int thrown, .ref a1, .ref a2, .ref a3, .ref a4, .ref a5, .ref a6, .ref a7, .ref a8, .ref a9, .ref a10, .ref a11, .ref a12, .ref a13, .ref a14, .ref a15, .ref a16, .ref a17, .ref a18, .ref a19, .int loftSize, .int startWind, .int seed, .int draftLoft, .int draftStart, .int draftSeed, .ref a20, .int length, .int textSize, .int start, .int next_, .int token, .int value, .int error, .int errorAt, .int number, .ref a21, .ref a22, .ref a23, .ref a24, .ref a25, .int undos, .ref a26, .ref a27, .ref a28])), (a25, .inl (kc 1, 25000, .inl best)), (a18, .inl (kc 1, 48, .inl weight)), (a19, .inl (kc 1, 48, .inl priority))]
set_option maxHeartbeats 4000000 in
set_option maxRecDepth 100000 in
theorem c_X9_lowest (l : Launch) (D : va_G) (kc : Nat → ClassId) (N : Nat) (a0 a1 a2 a3 a4 a5 a6 a7 a8 a9 a10 a11 a12 a13 a14 a15 a16 a17 a18 a19 a20 a21 a22 a23 a24 a25 a26 a27 a28 : Nat) (thrown : Int32) (loftSize : Int32) (startWind : Int32) (seed : Int32) (draftLoft : Int32) (draftStart : Int32) (draftSeed : Int32) (length : Int32) (textSize : Int32) (start : Int32) (next_ : Int32) (token : Int32) (value : Int32) (error : Int32) (errorAt : Int32) (number : Int32) (undos : Int32) (best : Nat → Int32) (weight : Nat → Int32) (priority : Nat → Int32) (x1 : Int32) (x2 : Int32) (r_ : Int32) (hf : f_X9_lowest N best weight priority x1 x2 = some r_) : MI l yX9_lowest wsX9_lowest ({ frames := 0, cells := 0, slots := 0, locals := 0 }) D kc [.ref a0, .int x1, .int x2] (w_X9_lowest kc a0 a1 a2 a3 a4 a5 a6 a7 a8 a9 a10 a11 a12 a13 a14 a15 a16 a17 a18 a19 a20 a21 a22 a23 a24 a25 a26 a27 a28 thrown loftSize startWind seed draftLoft draftStart draftSeed length textSize start next_ token value error errorAt number undos best weight priority) (w_X9_lowest kc a0 a1 a2 a3 a4 a5 a6 a7 a8 a9 a10 a11 a12 a13 a14 a15 a16 a17 a18 a19 a20 a21 a22 a23 a24 a25 a26 a27 a28 thrown loftSize startWind seed draftLoft draftStart draftSeed length textSize start next_ token value error errorAt number undos best weight priority) r_ := by
  refine gM_I (cc := cX9_lowest) (maxL := 7) (by decide) rfl (Nat.le_of_ble_eq_true rfl) ?_
  intro p e s m below meth c A ls Q hx hb hml hown hts hN hK hP hD hA hl kR
  have hS : va_S A s.heap s.heap [] := va_S.rf
  have hl : lv_has ls 7 [(0, .ref a0), (1, .int x1), (2, .int x2)] := hl
  have in_X9 : ∀ w ∈ u_ws RX9 TX9 45, w ∈ wsX9_lowest := by decide +kernel
  have lk_91 := hts (.fieldLink RX9 91 "BalloonMailModel" "best" "[I") (by decide +kernel)
  have lk_65 := hts (.fieldLink RX9 65 "BalloonMailModel" "weight" "[I") (by decide +kernel)
  have lk_68 := hts (.fieldLink RX9 68 "BalloonMailModel" "priority" "[I") (by decide +kernel)
  unfold f_X9_lowest at hf
  refine lv_iconst (v := 0) hx hb dX9_lowest_0 (by decide) ?_
  refine lv_istore_n (lv' := [(3, .int 0), (0, .ref a0), (1, .int x1), (2, .int x2)]) hx hb dX9_lowest_1 rfl hl (by decide) rfl (fun ls hl => ?_)
  refine lv_iload_n hx hb dX9_lowest_2 rfl (lv_at hl 3 rfl) ?_
  refine lv_istore (lv' := [(4, .int x2), (3, .int 0), (0, .ref a0), (1, .int x1), (2, .int x2)]) hx hb dX9_lowest_3 hl (by decide) rfl (fun ls hl => ?_)
  refine lv_aload_n hx hb dX9_lowest_5 rfl (lv_at hl 2 rfl) ?_
  refine va_get (D := D) (ci := 9) (v := .ref a25) (C := RX9) (T := TX9) (N := 45) hx hb hts in_X9 hown hK hP 0 rfl rfl 40 (by decide) lk_91 (fun _ h9 => h9) rfl dX9_lowest_6 ?_
  refine lv_sipush (v := 1000) hx hb dX9_lowest_9 (by decide) ?_
  refine lv_iload_n hx hb dX9_lowest_12 rfl (lv_at hl 3 rfl) ?_
  refine lv_imul hx hb dX9_lowest_13 ?_
  refine lv_iload_n hx hb dX9_lowest_14 rfl (lv_at hl 4 rfl) ?_
  refine lv_iadd hx hb dX9_lowest_15 ?_
  obtain ⟨hi, hf⟩ := gIx_some hf
  refine va_iald hx hb hK hP 1 1 rfl rfl hi dX9_lowest_16 ?_
  refine lv_istore (lv' := [(5, .int (best (((1000 * x1) + x2) : Int32).toNatClampNeg)), (4, .int x2), (3, .int 0), (0, .ref a0), (1, .int x1), (2, .int x2)]) hx hb dX9_lowest_17 hl (by decide) rfl (fun ls hl => ?_)
  refine lv_iload_n hx hb dX9_lowest_19 rfl (lv_at hl 4 rfl) ?_
  refine lv_iconst (v := 1) hx hb dX9_lowest_20 (by decide) ?_
  refine lv_isub hx hb dX9_lowest_21 ?_
  refine lv_istore (lv' := [(6, .int (x1 - 1)), (5, .int (best (((1000 * x1) + x2) : Int32).toNatClampNeg)), (4, .int x2), (3, .int 0), (0, .ref a0), (1, .int x1), (2, .int x2)]) hx hb dX9_lowest_22 hl (by decide) rfl (fun ls hl => ?_)
  have L24 : ∀ (n : Nat) (y6_24 : Int32) (y5_24 : Int32) (y4_24 : Int32) (y3_24 : Int32) (y6_24o : Int32) (y5_24o : Int32) (y4_24o : Int32) (y3_24o : Int32), f_X9_lowest_24 N best weight priority n y6_24 y5_24 y4_24 y3_24 = some (y6_24o, y5_24o, y4_24o, y3_24o) → (∀ (H : Heap) (locs : List Loc) (ls : Array Slot), va_P D vwCl (w_X9_lowest kc a0 a1 a2 a3 a4 a5 a6 a7 a8 a9 a10 a11 a12 a13 a14 a15 a16 a17 a18 a19 a20 a21 a22 a23 a24 a25 a26 a27 a28 thrown loftSize startWind seed draftLoft draftStart draftSeed length textSize start next_ token value error errorAt number undos best weight priority) H → va_D A (w_X9_lowest kc a0 a1 a2 a3 a4 a5 a6 a7 a8 a9 a10 a11 a12 a13 a14 a15 a16 a17 a18 a19 a20 a21 a22 a23 a24 a25 a26 a27 a28 thrown loftSize startWind seed draftLoft draftStart draftSeed length textSize start next_ token value error errorAt number undos best weight priority) → va_S A s.heap H locs → lv_has ls 7 [(0, .ref a0), (1, .int x1), (2, .int x2), (3, .int y3_24o), (4, .int y4_24o), (5, .int y5_24o), (6, .int y6_24o)] → W p l e ({ frames := 0, cells := 0, slots := 0, locals := 0 }) s m (([.ref a0, .int x1, .int x2] : List Value).toArray) below meth c H locs 0 0 Q (F0 m 85 ls [])) → ∀ (H : Heap) (locs : List Loc) (ls : Array Slot), va_P D vwCl (w_X9_lowest kc a0 a1 a2 a3 a4 a5 a6 a7 a8 a9 a10 a11 a12 a13 a14 a15 a16 a17 a18 a19 a20 a21 a22 a23 a24 a25 a26 a27 a28 thrown loftSize startWind seed draftLoft draftStart draftSeed length textSize start next_ token value error errorAt number undos best weight priority) H → va_D A (w_X9_lowest kc a0 a1 a2 a3 a4 a5 a6 a7 a8 a9 a10 a11 a12 a13 a14 a15 a16 a17 a18 a19 a20 a21 a22 a23 a24 a25 a26 a27 a28 thrown loftSize startWind seed draftLoft draftStart draftSeed length textSize start next_ token value error errorAt number undos best weight priority) → va_S A s.heap H locs → lv_has ls 7 [(0, .ref a0), (1, .int x1), (2, .int x2), (3, .int y3_24), (4, .int y4_24), (5, .int y5_24), (6, .int y6_24)] → W p l e ({ frames := 0, cells := 0, slots := 0, locals := 0 }) s m (([.ref a0, .int x1, .int x2] : List Value).toArray) below meth c H locs 0 0 Q (F0 m 24 ls []) := by
    intro n
    induction n with
    | zero => intro _ _ _ _ _ _ _ _ hf; rw [f_X9_lowest_24.eq_1] at hf; cases hf
    | succ n ih =>
      intro y6_24 y5_24 y4_24 y3_24 y6_24o y5_24o y4_24o y3_24o hf hk H locs ls hP hD hS hl
      rw [f_X9_lowest_24.eq_2] at hf
      refine lv_iload hx hb dX9_lowest_24 (lv_at hl 6 rfl) ?_
      refine lv_if_lt (tgt := 85) hx hb dX9_lowest_26 (by decide) (fun hc => ?_) (fun hc => ?_)
      · have hf := o_t hc hf
        cases hf
        exact hk _ _ _ hP hD hS (lv_sub hl [0, 1, 2, 3, 4, 5, 6] rfl)
      · have hf := o_f hc hf
        refine lv_aload_n hx hb dX9_lowest_29 rfl (lv_at hl 0 rfl) ?_
        refine va_get (D := D) (ci := 9) (v := .ref a25) (C := RX9) (T := TX9) (N := 45) hx hb hts in_X9 hown hK hP 0 rfl rfl 40 (by decide) lk_91 (fun _ h9 => h9) rfl dX9_lowest_30 ?_
        refine lv_sipush (v := 1000) hx hb dX9_lowest_33 (by decide) ?_
        refine lv_iload hx hb dX9_lowest_36 (lv_at hl 6 rfl) ?_
        refine lv_imul hx hb dX9_lowest_38 ?_
        refine lv_iload hx hb dX9_lowest_39 (lv_at hl 4 rfl) ?_
        refine lv_iadd hx hb dX9_lowest_41 ?_
        obtain ⟨hi, hf⟩ := gIx_some hf
        refine va_iald hx hb hK hP 1 1 rfl rfl hi dX9_lowest_42 ?_
        refine lv_iload hx hb dX9_lowest_43 (lv_at hl 5 rfl) ?_
        refine lv_icmp_eq (tgt := 79) hx hb dX9_lowest_45 (by decide) (fun hc => ?_) (fun hc => ?_)
        · have hf := o_t hc hf
          refine lv_iinc (v := (y6_24 + (-1))) (lv' := [(6, .int (y6_24 + (-1))), (0, .ref a0), (1, .int x1), (2, .int x2), (3, .int y3_24), (4, .int y4_24), (5, .int y5_24)]) hx hb dX9_lowest_79 hl (k := 6) rfl (by rfl) (by decide) rfl (fun ls hl => ?_)
          refine lv_goto (tgt := 24) hx hb dX9_lowest_82 (by decide) ?_
          exact ih _ _ _ _ _ _ _ _ hf hk _ _ _ hP hD hS (lv_sub hl [1, 2, 3, 4, 5, 6, 0] rfl)
        · have hf := o_f hc hf
          refine lv_iload_n hx hb dX9_lowest_48 rfl (lv_at hl 3 rfl) ?_
          refine lv_iconst (v := 1) hx hb dX9_lowest_49 (by decide) ?_
          refine lv_iload hx hb dX9_lowest_50 (lv_at hl 6 rfl) ?_
          refine lv_ishl hx hb dX9_lowest_52 ?_
          refine lv_ior hx hb dX9_lowest_53 ?_
          refine lv_istore_n (lv' := [(3, .int (y3_24 ||| ((1 : Int32) <<< ((y6_24 : Int32) &&& 31)))), (0, .ref a0), (1, .int x1), (2, .int x2), (4, .int y4_24), (5, .int y5_24), (6, .int y6_24)]) hx hb dX9_lowest_54 rfl hl (by decide) rfl (fun ls hl => ?_)
          refine lv_iload hx hb dX9_lowest_55 (lv_at hl 4 rfl) ?_
          refine lv_aload_n hx hb dX9_lowest_57 rfl (lv_at hl 1 rfl) ?_
          refine va_get (D := D) (ci := 9) (v := .ref a18) (C := RX9) (T := TX9) (N := 45) hx hb hts in_X9 hown hK hP 0 rfl rfl 18 (by decide) lk_65 (fun _ h9 => h9) rfl dX9_lowest_58 ?_
          refine lv_iload hx hb dX9_lowest_61 (lv_at hl 6 rfl) ?_
          obtain ⟨hi, hf⟩ := gIx_some hf
          refine va_iald hx hb hK hP 2 1 rfl rfl hi dX9_lowest_63 ?_
          refine lv_isub hx hb dX9_lowest_64 ?_
          refine lv_istore (lv' := [(4, .int (y4_24 - (weight (y6_24 : Int32).toNatClampNeg))), (3, .int (y3_24 ||| ((1 : Int32) <<< ((y6_24 : Int32) &&& 31)))), (0, .ref a0), (1, .int x1), (2, .int x2), (5, .int y5_24), (6, .int y6_24)]) hx hb dX9_lowest_65 hl (by decide) rfl (fun ls hl => ?_)
          refine lv_iload hx hb dX9_lowest_67 (lv_at hl 5 rfl) ?_
          refine lv_aload_n hx hb dX9_lowest_69 rfl (lv_at hl 2 rfl) ?_
          refine va_get (D := D) (ci := 9) (v := .ref a19) (C := RX9) (T := TX9) (N := 45) hx hb hts in_X9 hown hK hP 0 rfl rfl 19 (by decide) lk_68 (fun _ h9 => h9) rfl dX9_lowest_70 ?_
          refine lv_iload hx hb dX9_lowest_73 (lv_at hl 6 rfl) ?_
          obtain ⟨hi, hf⟩ := gIx_some hf
          refine va_iald hx hb hK hP 3 1 rfl rfl hi dX9_lowest_75 ?_
          refine lv_isub hx hb dX9_lowest_76 ?_
          refine lv_istore (lv' := [(5, .int (y5_24 - (priority (y6_24 : Int32).toNatClampNeg))), (4, .int (y4_24 - (weight (y6_24 : Int32).toNatClampNeg))), (3, .int (y3_24 ||| ((1 : Int32) <<< ((y6_24 : Int32) &&& 31)))), (0, .ref a0), (1, .int x1), (2, .int x2), (6, .int y6_24)]) hx hb dX9_lowest_77 hl (by decide) rfl (fun ls hl => ?_)
          refine lv_iinc (v := (y6_24 + (-1))) (lv' := [(6, .int (y6_24 + (-1))), (5, .int (y5_24 - (priority (y6_24 : Int32).toNatClampNeg))), (4, .int (y4_24 - (weight (y6_24 : Int32).toNatClampNeg))), (3, .int (y3_24 ||| ((1 : Int32) <<< ((y6_24 : Int32) &&& 31)))), (0, .ref a0), (1, .int x1), (2, .int x2)]) hx hb dX9_lowest_79 hl (k := 6) rfl (by rfl) (by decide) rfl (fun ls hl => ?_)
          refine lv_goto (tgt := 24) hx hb dX9_lowest_82 (by decide) ?_
          exact ih _ _ _ _ _ _ _ _ hf hk _ _ _ hP hD hS (lv_sub hl [4, 5, 6, 3, 2, 1, 0] rfl)
  obtain ⟨y6_24o, y5_24o, y4_24o, y3_24o, hc, hf⟩ := ob4_some hf
  refine L24 N _ _ _ _ _ _ _ _ hc (fun H locs ls hP hD hS hl => ?_) _ _ _ hP hD hS (lv_sub hl [4, 5, 6, 3, 2, 1, 0] rfl)
  refine lv_iload_n hx hb dX9_lowest_85 rfl (lv_at hl 3 rfl) ?_
  cases hf
  exact kR _ _ _ _ hP hD hS dX9_lowest_86
abbrev w_X9_bestLoad (kc : Nat → ClassId) (a0 a1 a2 a3 a4 a5 a6 a7 a8 a9 a10 a11 a12 a13 a14 a15 a16 a17 a18 a19 a20 a21 a22 a23 a24 a25 a26 a27 a28 : Nat) (thrown : Int32) (loftSize : Int32) (startWind : Int32) (seed : Int32) (draftLoft : Int32) (draftStart : Int32) (draftSeed : Int32) (length : Int32) (textSize : Int32) (start : Int32) (next_ : Int32) (token : Int32) (value : Int32) (error : Int32) (errorAt : Int32) (number : Int32) (undos : Int32) (balloons : Nat → Int32) (now : Nat → Int32) (letters : Nat → Int32) (best : Nat → Int32) (weight : Nat → Int32) (priority : Nat → Int32) (room_ : Nat → Int32) : va_W := [(a0, .inr (9, [.int thrown, .ref a1, .ref a2, .ref a3, .ref a4, .ref a5, .ref a6, .ref a7, .ref a8, .ref a9, .ref a10, .ref a11, .ref a12, .ref a13, .ref a14, .ref a15, .ref a16, .ref a17, .ref a18, .ref a19, .int loftSize, .int startWind, .int seed, .int draftLoft, .int draftStart, .int draftSeed, .ref a20, .int length, .int textSize, .int start, .int next_, .int token, .int value, .int error, .int errorAt, .int number, .ref a21, .ref a22, .ref a23, .ref a24, .ref a25, .int undos, .ref a26, .ref a27, .ref a28])), (a14, .inl (kc 1, 2, .inl balloons)), (a1, .inl (kc 1, 213, .inl now)), (a17, .inl (kc 1, 2, .inl letters)), (a25, .inl (kc 1, 25000, .inl best)), (a18, .inl (kc 1, 48, .inl weight)), (a19, .inl (kc 1, 48, .inl priority)), (a15, .inl (kc 1, 20, .inl room_))]
set_option maxHeartbeats 4000000 in
set_option maxRecDepth 100000 in
theorem c_X9_bestLoad (l : Launch) (D : va_G) (kc : Nat → ClassId) (N : Nat) (a0 a1 a2 a3 a4 a5 a6 a7 a8 a9 a10 a11 a12 a13 a14 a15 a16 a17 a18 a19 a20 a21 a22 a23 a24 a25 a26 a27 a28 : Nat) (thrown : Int32) (loftSize : Int32) (startWind : Int32) (seed : Int32) (draftLoft : Int32) (draftStart : Int32) (draftSeed : Int32) (length : Int32) (textSize : Int32) (start : Int32) (next_ : Int32) (token : Int32) (value : Int32) (error : Int32) (errorAt : Int32) (number : Int32) (undos : Int32) (balloons : Nat → Int32) (now : Nat → Int32) (letters : Nat → Int32) (best : Nat → Int32) (weight : Nat → Int32) (priority : Nat → Int32) (room_ : Nat → Int32) (x1 : Int32) (r_ : Int32) (thrown' : Int32) (best' : Nat → Int32) (hf : f_X9_bestLoad N balloons now letters best weight priority room_ x1 = some (r_, thrown', best')) : MI l yX9_bestLoad wsX9_bestLoad ({ frames := 2, cells := 0, slots := 0, locals := 43 }) D kc [.ref a0, .int x1] (w_X9_bestLoad kc a0 a1 a2 a3 a4 a5 a6 a7 a8 a9 a10 a11 a12 a13 a14 a15 a16 a17 a18 a19 a20 a21 a22 a23 a24 a25 a26 a27 a28 thrown loftSize startWind seed draftLoft draftStart draftSeed length textSize start next_ token value error errorAt number undos balloons now letters best weight priority room_) (w_X9_bestLoad kc a0 a1 a2 a3 a4 a5 a6 a7 a8 a9 a10 a11 a12 a13 a14 a15 a16 a17 a18 a19 a20 a21 a22 a23 a24 a25 a26 a27 a28 thrown' loftSize startWind seed draftLoft draftStart draftSeed length textSize start next_ token value error errorAt number undos balloons now letters best' weight priority room_) r_ := by
  refine gM_I (cc := cX9_bestLoad) (maxL := 7) (by decide) rfl (Nat.le_of_ble_eq_true rfl) ?_
  intro p e s m below meth c A ls Q hx hb hml hown hts hN hK hP hD hA hl kR
  have hS : va_S A s.heap s.heap [] := va_S.rf
  have hl : lv_has ls 7 [(0, .ref a0), (1, .int x1)] := hl
  have in_X9 : ∀ w ∈ u_ws RX9 TX9 45, w ∈ wsX9_bestLoad := by decide +kernel
  have lk_1 := hts (.fieldLink RX9 1 "BalloonMailModel" "thrown" "I") (by decide +kernel)
  have lk_13 := hts (.fieldLink RX9 13 "BalloonMailModel" "now" "[I") (by decide +kernel)
  have lk_62 := hts (.fieldLink RX9 62 "BalloonMailModel" "letters" "[I") (by decide +kernel)
  have lk_91 := hts (.fieldLink RX9 91 "BalloonMailModel" "best" "[I") (by decide +kernel)
  have lk_68 := hts (.fieldLink RX9 68 "BalloonMailModel" "priority" "[I") (by decide +kernel)
  have lk_65 := hts (.fieldLink RX9 65 "BalloonMailModel" "weight" "[I") (by decide +kernel)
  have lk_56 := hts (.fieldLink RX9 56 "BalloonMailModel" "room" "[I") (by decide +kernel)
  unfold f_X9_bestLoad at hf
  refine lv_aload_n hx hb dX9_bestLoad_0 rfl (lv_at hl 0 rfl) ?_
  refine lv_iconst (v := 0) hx hb dX9_bestLoad_1 (by decide) ?_
  refine va_put (D := D) (ci := 9) (v := .int 0) (ty := .int) (C := RX9) (T := TX9) (N := 45) hx hb hts in_X9 tyX9 tyX9_ok nmX9 hown hK hP hD hS 0 rfl rfl 0 (by decide) lk_1 (fun _ h9 => h9) rfl (by decide +kernel) rfl rfl (Nat.le_of_ble_eq_true rfl) dX9_bestLoad_2 (fun H locs hP hD hS => ?_)
  have hP : va_P D vwCl (w_X9_bestLoad kc a0 a1 a2 a3 a4 a5 a6 a7 a8 a9 a10 a11 a12 a13 a14 a15 a16 a17 a18 a19 a20 a21 a22 a23 a24 a25 a26 a27 a28 0 loftSize startWind seed draftLoft draftStart draftSeed length textSize start next_ token value error errorAt number undos balloons now letters best weight priority room_) H := hP
  have hD : va_D A (w_X9_bestLoad kc a0 a1 a2 a3 a4 a5 a6 a7 a8 a9 a10 a11 a12 a13 a14 a15 a16 a17 a18 a19 a20 a21 a22 a23 a24 a25 a26 a27 a28 0 loftSize startWind seed draftLoft draftStart draftSeed length textSize start next_ token value error errorAt number undos balloons now letters best weight priority room_) := hD
  refine lv_aload_n hx hb dX9_bestLoad_5 rfl (lv_at hl 0 rfl) ?_
  refine lv_iload_n hx hb dX9_bestLoad_6 rfl (lv_at hl 1 rfl) ?_
  obtain ⟨r_1, hc, hf⟩ := ob1_some hf
  refine g_VZ (As := [.int x1]) (rest := []) (ws' := (w_X9_bestLoad kc a0 a1 a2 a3 a4 a5 a6 a7 a8 a9 a10 a11 a12 a13 a14 a15 a16 a17 a18 a19 a20 a21 a22 a23 a24 a25 a26 a27 a28 0 loftSize startWind seed draftLoft draftStart draftSeed length textSize start next_ token value error errorAt number undos balloons now letters best weight priority room_)) ⟨hx, hb, hml, hown, hts⟩ hN hK hP hD hS hA (c_X9_isBalloon l D kc N a0 a1 a2 a3 a4 a5 a6 a7 a8 a9 a10 a11 a12 a13 a14 a15 a16 a17 a18 a19 a20 a21 a22 a23 a24 a25 a26 a27 a28 0 loftSize startWind seed draftLoft draftStart draftSeed length textSize start next_ token value error errorAt number undos balloons x1 r_1 hc) (cwV 1 hts gX9_bestLoad_X9_isBalloon rfl rfl rfl (by decide +kernel) ⟨Nat.le_of_ble_eq_true rfl, Nat.le_of_ble_eq_true rfl⟩) [0, 1] [2, 3, 4, 5, 6, 7] [6, 7, 0, 1, 2, 3, 4, 5] (by exact ⟨rfl, rfl, by decide, rfl⟩) 0 9 rfl rfl rfl rfl hl.1 rfl (Nat.le_of_ble_eq_true rfl) dX9_bestLoad_7 ⟨Nat.le_refl _, Nat.le_refl _⟩ (fun H locs hz hP hD hS => ?_)
  have hz_2 := hz
  refine lv_if_ne (tgt := 15) hx hb dX9_bestLoad_10 (by decide) (fun hc => ?_) (fun hc => ?_)
  · have hf := o_f hc hf
    refine lv_aload_n hx hb dX9_bestLoad_15 rfl (lv_at hl 0 rfl) ?_
    refine va_get (D := D) (ci := 9) (v := .ref a1) (C := RX9) (T := TX9) (N := 45) hx hb hts in_X9 hown hK hP 0 rfl rfl 1 (by decide) lk_13 (fun _ h9 => h9) rfl dX9_bestLoad_16 ?_
    refine lv_iconst (v := 5) hx hb dX9_bestLoad_19 (by decide) ?_
    refine lv_iload_n hx hb dX9_bestLoad_20 rfl (lv_at hl 1 rfl) ?_
    refine lv_iadd hx hb dX9_bestLoad_21 ?_
    obtain ⟨hi, hf⟩ := gIx_some hf
    refine va_iald hx hb hK hP 2 1 rfl rfl hi dX9_bestLoad_22 ?_
    refine lv_if_eq (tgt := 29) hx hb dX9_bestLoad_23 (by decide) (fun hc => ?_) (fun hc => ?_)
    · have hf := o_t hc hf
      refine lv_aload_n hx hb dX9_bestLoad_29 rfl (lv_at hl 0 rfl) ?_
      refine va_get (D := D) (ci := 9) (v := .ref a17) (C := RX9) (T := TX9) (N := 45) hx hb hts in_X9 hown hK hP 0 rfl rfl 17 (by decide) lk_62 (fun _ h9 => h9) rfl dX9_bestLoad_30 ?_
      refine lv_iconst (v := 0) hx hb dX9_bestLoad_33 (by decide) ?_
      obtain ⟨hi, hf⟩ := gIx_some hf
      refine va_iald hx hb hK hP 3 1 rfl rfl hi dX9_bestLoad_34 ?_
      refine lv_istore_n (lv' := [(2, .int (letters (0 : Int32).toNatClampNeg)), (0, .ref a0), (1, .int x1)]) hx hb dX9_bestLoad_35 rfl hl (by decide) rfl (fun ls hl => ?_)
      refine lv_iconst (v := 0) hx hb dX9_bestLoad_36 (by decide) ?_
      refine lv_istore_n (lv' := [(3, .int 0), (2, .int (letters (0 : Int32).toNatClampNeg)), (0, .ref a0), (1, .int x1)]) hx hb dX9_bestLoad_37 rfl hl (by decide) rfl (fun ls hl => ?_)
      have L38 : ∀ (z2_38 : Int32) (thrown_f38 : Int32) (n : Nat) (y3_38 : Int32) (best_38 : Nat → Int32) (y3_38o : Int32) (best_38o : Nat → Int32), f_X9_bestLoad_38 N n y3_38 best_38 = some (y3_38o, best_38o) → (∀ (H : Heap) (locs : List Loc) (ls : Array Slot), va_P D vwCl (w_X9_bestLoad kc a0 a1 a2 a3 a4 a5 a6 a7 a8 a9 a10 a11 a12 a13 a14 a15 a16 a17 a18 a19 a20 a21 a22 a23 a24 a25 a26 a27 a28 thrown_f38 loftSize startWind seed draftLoft draftStart draftSeed length textSize start next_ token value error errorAt number undos balloons now letters best_38o weight priority room_) H → va_D A (w_X9_bestLoad kc a0 a1 a2 a3 a4 a5 a6 a7 a8 a9 a10 a11 a12 a13 a14 a15 a16 a17 a18 a19 a20 a21 a22 a23 a24 a25 a26 a27 a28 thrown_f38 loftSize startWind seed draftLoft draftStart draftSeed length textSize start next_ token value error errorAt number undos balloons now letters best_38o weight priority room_) → va_S A s.heap H locs → lv_has ls 7 [(0, .ref a0), (1, .int x1), (2, .int z2_38), (3, .int y3_38o)] → W p l e ({ frames := 2, cells := 0, slots := 0, locals := 43 }) s m (([.ref a0, .int x1] : List Value).toArray) below meth c H locs 0 0 Q (F0 m 66 ls [])) → ∀ (H : Heap) (locs : List Loc) (ls : Array Slot), va_P D vwCl (w_X9_bestLoad kc a0 a1 a2 a3 a4 a5 a6 a7 a8 a9 a10 a11 a12 a13 a14 a15 a16 a17 a18 a19 a20 a21 a22 a23 a24 a25 a26 a27 a28 thrown_f38 loftSize startWind seed draftLoft draftStart draftSeed length textSize start next_ token value error errorAt number undos balloons now letters best_38 weight priority room_) H → va_D A (w_X9_bestLoad kc a0 a1 a2 a3 a4 a5 a6 a7 a8 a9 a10 a11 a12 a13 a14 a15 a16 a17 a18 a19 a20 a21 a22 a23 a24 a25 a26 a27 a28 thrown_f38 loftSize startWind seed draftLoft draftStart draftSeed length textSize start next_ token value error errorAt number undos balloons now letters best_38 weight priority room_) → va_S A s.heap H locs → lv_has ls 7 [(0, .ref a0), (1, .int x1), (2, .int z2_38), (3, .int y3_38)] → W p l e ({ frames := 2, cells := 0, slots := 0, locals := 43 }) s m (([.ref a0, .int x1] : List Value).toArray) below meth c H locs 0 0 Q (F0 m 38 ls []) := by
        intro z2_38 thrown_f38 n
        induction n with
        | zero => intro _ _ _ _ hf; rw [f_X9_bestLoad_38.eq_1] at hf; cases hf
        | succ n ih =>
          intro y3_38 best_38 y3_38o best_38o hf hk H locs ls hP hD hS hl
          rw [f_X9_bestLoad_38.eq_2] at hf
          refine lv_iload_n hx hb dX9_bestLoad_38 rfl (lv_at hl 3 rfl) ?_
          refine lv_sipush (v := 999) hx hb dX9_bestLoad_39 (by decide) ?_
          refine lv_icmp_gt (tgt := 66) hx hb dX9_bestLoad_42 (by decide) (fun hc => ?_) (fun hc => ?_)
          · have hf := o_t hc hf
            cases hf
            exact hk _ _ _ hP hD hS (lv_sub hl [0, 1, 2, 3] rfl)
          · have hf := o_f hc hf
            refine lv_aload_n hx hb dX9_bestLoad_45 rfl (lv_at hl 0 rfl) ?_
            refine va_get (D := D) (ci := 9) (v := .ref a25) (C := RX9) (T := TX9) (N := 45) hx hb hts in_X9 hown hK hP 0 rfl rfl 40 (by decide) lk_91 (fun _ h9 => h9) rfl dX9_bestLoad_46 ?_
            refine lv_iload_n hx hb dX9_bestLoad_49 rfl (lv_at hl 3 rfl) ?_
            refine lv_iload_n hx hb dX9_bestLoad_50 rfl (lv_at hl 3 rfl) ?_
            refine lv_if_ne (tgt := 58) hx hb dX9_bestLoad_51 (by decide) (fun hc => ?_) (fun hc => ?_)
            · have hf := o_f hc hf
              refine lv_iconst (v := (-1)) hx hb dX9_bestLoad_58 (by decide) ?_
              obtain ⟨hi, hf⟩ := gIx_some hf
              refine va_iast hx hb hK hP hD hS 4 1 rfl rfl hi dX9_bestLoad_59 (fun H locs hP hD hS => ?_)
              have hP : va_P D vwCl (w_X9_bestLoad kc a0 a1 a2 a3 a4 a5 a6 a7 a8 a9 a10 a11 a12 a13 a14 a15 a16 a17 a18 a19 a20 a21 a22 a23 a24 a25 a26 a27 a28 thrown_f38 loftSize startWind seed draftLoft draftStart draftSeed length textSize start next_ token value error errorAt number undos balloons now letters (upd best_38 (y3_38 : Int32).toNatClampNeg (-1)) weight priority room_) H := hP
              have hD : va_D A (w_X9_bestLoad kc a0 a1 a2 a3 a4 a5 a6 a7 a8 a9 a10 a11 a12 a13 a14 a15 a16 a17 a18 a19 a20 a21 a22 a23 a24 a25 a26 a27 a28 thrown_f38 loftSize startWind seed draftLoft draftStart draftSeed length textSize start next_ token value error errorAt number undos balloons now letters (upd best_38 (y3_38 : Int32).toNatClampNeg (-1)) weight priority room_) := hD
              refine lv_iinc (v := (y3_38 + 1)) (lv' := [(3, .int (y3_38 + 1)), (0, .ref a0), (1, .int x1), (2, .int z2_38)]) hx hb dX9_bestLoad_60 hl (k := 3) rfl (by rfl) (by decide) rfl (fun ls hl => ?_)
              refine lv_goto (tgt := 38) hx hb dX9_bestLoad_63 (by decide) ?_
              exact ih _ _ _ _ hf hk _ _ _ hP hD hS (lv_sub hl [1, 2, 3, 0] rfl)
            · have hf := o_t hc hf
              refine lv_iconst (v := 0) hx hb dX9_bestLoad_54 (by decide) ?_
              refine lv_goto (tgt := 59) hx hb dX9_bestLoad_55 (by decide) ?_
              obtain ⟨hi, hf⟩ := gIx_some hf
              refine va_iast hx hb hK hP hD hS 4 1 rfl rfl hi dX9_bestLoad_59 (fun H locs hP hD hS => ?_)
              have hP : va_P D vwCl (w_X9_bestLoad kc a0 a1 a2 a3 a4 a5 a6 a7 a8 a9 a10 a11 a12 a13 a14 a15 a16 a17 a18 a19 a20 a21 a22 a23 a24 a25 a26 a27 a28 thrown_f38 loftSize startWind seed draftLoft draftStart draftSeed length textSize start next_ token value error errorAt number undos balloons now letters (upd best_38 (y3_38 : Int32).toNatClampNeg 0) weight priority room_) H := hP
              have hD : va_D A (w_X9_bestLoad kc a0 a1 a2 a3 a4 a5 a6 a7 a8 a9 a10 a11 a12 a13 a14 a15 a16 a17 a18 a19 a20 a21 a22 a23 a24 a25 a26 a27 a28 thrown_f38 loftSize startWind seed draftLoft draftStart draftSeed length textSize start next_ token value error errorAt number undos balloons now letters (upd best_38 (y3_38 : Int32).toNatClampNeg 0) weight priority room_) := hD
              refine lv_iinc (v := (y3_38 + 1)) (lv' := [(3, .int (y3_38 + 1)), (0, .ref a0), (1, .int x1), (2, .int z2_38)]) hx hb dX9_bestLoad_60 hl (k := 3) rfl (by rfl) (by decide) rfl (fun ls hl => ?_)
              refine lv_goto (tgt := 38) hx hb dX9_bestLoad_63 (by decide) ?_
              exact ih _ _ _ _ hf hk _ _ _ hP hD hS (lv_sub hl [1, 2, 3, 0] rfl)
      obtain ⟨y3_38o, best_38o, hc, hf⟩ := ob2_some hf
      refine L38 (letters (0 : Int32).toNatClampNeg) 0 N _ _ _ _ hc (fun H locs ls hP hD hS hl => ?_) _ _ _ hP hD hS (lv_sub hl [2, 3, 1, 0] rfl)
      refine lv_iconst (v := 0) hx hb dX9_bestLoad_66 (by decide) ?_
      refine lv_istore_n (lv' := [(3, .int 0), (0, .ref a0), (1, .int x1), (2, .int (letters (0 : Int32).toNatClampNeg))]) hx hb dX9_bestLoad_67 rfl hl (by decide) rfl (fun ls hl => ?_)
      have L68 : ∀ (z2_68 : Int32) (thrown_f68 : Int32) (n : Nat) (y3_68 : Int32) (best_68 : Nat → Int32) (y3_68o : Int32) (best_68o : Nat → Int32), f_X9_bestLoad_68 N now weight priority z2_68 n y3_68 best_68 = some (y3_68o, best_68o) → (∀ (H : Heap) (locs : List Loc) (ls : Array Slot), va_P D vwCl (w_X9_bestLoad kc a0 a1 a2 a3 a4 a5 a6 a7 a8 a9 a10 a11 a12 a13 a14 a15 a16 a17 a18 a19 a20 a21 a22 a23 a24 a25 a26 a27 a28 thrown_f68 loftSize startWind seed draftLoft draftStart draftSeed length textSize start next_ token value error errorAt number undos balloons now letters best_68o weight priority room_) H → va_D A (w_X9_bestLoad kc a0 a1 a2 a3 a4 a5 a6 a7 a8 a9 a10 a11 a12 a13 a14 a15 a16 a17 a18 a19 a20 a21 a22 a23 a24 a25 a26 a27 a28 thrown_f68 loftSize startWind seed draftLoft draftStart draftSeed length textSize start next_ token value error errorAt number undos balloons now letters best_68o weight priority room_) → va_S A s.heap H locs → lv_has ls 7 [(0, .ref a0), (1, .int x1), (2, .int z2_68), (3, .int y3_68o)] → W p l e ({ frames := 2, cells := 0, slots := 0, locals := 43 }) s m (([.ref a0, .int x1] : List Value).toArray) below meth c H locs 0 0 Q (F0 m 208 ls [])) → ∀ (H : Heap) (locs : List Loc) (ls : Array Slot), va_P D vwCl (w_X9_bestLoad kc a0 a1 a2 a3 a4 a5 a6 a7 a8 a9 a10 a11 a12 a13 a14 a15 a16 a17 a18 a19 a20 a21 a22 a23 a24 a25 a26 a27 a28 thrown_f68 loftSize startWind seed draftLoft draftStart draftSeed length textSize start next_ token value error errorAt number undos balloons now letters best_68 weight priority room_) H → va_D A (w_X9_bestLoad kc a0 a1 a2 a3 a4 a5 a6 a7 a8 a9 a10 a11 a12 a13 a14 a15 a16 a17 a18 a19 a20 a21 a22 a23 a24 a25 a26 a27 a28 thrown_f68 loftSize startWind seed draftLoft draftStart draftSeed length textSize start next_ token value error errorAt number undos balloons now letters best_68 weight priority room_) → va_S A s.heap H locs → lv_has ls 7 [(0, .ref a0), (1, .int x1), (2, .int z2_68), (3, .int y3_68)] → W p l e ({ frames := 2, cells := 0, slots := 0, locals := 43 }) s m (([.ref a0, .int x1] : List Value).toArray) below meth c H locs 0 0 Q (F0 m 68 ls []) := by
        intro z2_68 thrown_f68 n
        induction n with
        | zero => intro _ _ _ _ hf; rw [f_X9_bestLoad_68.eq_1] at hf; cases hf
        | succ n ih =>
          intro y3_68 best_68 y3_68o best_68o hf hk H locs ls hP hD hS hl
          rw [f_X9_bestLoad_68.eq_2] at hf
          refine lv_iload_n hx hb dX9_bestLoad_68 rfl (lv_at hl 3 rfl) ?_
          refine lv_iload_n hx hb dX9_bestLoad_69 rfl (lv_at hl 2 rfl) ?_
          refine lv_icmp_ge (tgt := 208) hx hb dX9_bestLoad_70 (by decide) (fun hc => ?_) (fun hc => ?_)
          · have hf := o_t hc hf
            cases hf
            exact hk _ _ _ hP hD hS (lv_sub hl [0, 1, 2, 3] rfl)
          · have hf := o_f hc hf
            refine lv_iconst (v := 0) hx hb dX9_bestLoad_73 (by decide) ?_
            refine lv_istore (lv' := [(4, .int 0), (0, .ref a0), (1, .int x1), (2, .int z2_68), (3, .int y3_68)]) hx hb dX9_bestLoad_74 hl (by decide) rfl (fun ls hl => ?_)
            have L76 : ∀ (n : Nat) (y4_76 : Int32) (best_76 : Nat → Int32) (y4_76o : Int32) (best_76o : Nat → Int32), f_X9_bestLoad_76 N now weight priority y3_68 n y4_76 best_76 = some (y4_76o, best_76o) → (∀ (H : Heap) (locs : List Loc) (ls : Array Slot), va_P D vwCl (w_X9_bestLoad kc a0 a1 a2 a3 a4 a5 a6 a7 a8 a9 a10 a11 a12 a13 a14 a15 a16 a17 a18 a19 a20 a21 a22 a23 a24 a25 a26 a27 a28 thrown_f68 loftSize startWind seed draftLoft draftStart draftSeed length textSize start next_ token value error errorAt number undos balloons now letters best_76o weight priority room_) H → va_D A (w_X9_bestLoad kc a0 a1 a2 a3 a4 a5 a6 a7 a8 a9 a10 a11 a12 a13 a14 a15 a16 a17 a18 a19 a20 a21 a22 a23 a24 a25 a26 a27 a28 thrown_f68 loftSize startWind seed draftLoft draftStart draftSeed length textSize start next_ token value error errorAt number undos balloons now letters best_76o weight priority room_) → va_S A s.heap H locs → lv_has ls 7 [(0, .ref a0), (1, .int x1), (2, .int z2_68), (3, .int y3_68), (4, .int y4_76o)] → W p l e ({ frames := 2, cells := 0, slots := 0, locals := 43 }) s m (([.ref a0, .int x1] : List Value).toArray) below meth c H locs 0 0 Q (F0 m 202 ls [])) → ∀ (H : Heap) (locs : List Loc) (ls : Array Slot), va_P D vwCl (w_X9_bestLoad kc a0 a1 a2 a3 a4 a5 a6 a7 a8 a9 a10 a11 a12 a13 a14 a15 a16 a17 a18 a19 a20 a21 a22 a23 a24 a25 a26 a27 a28 thrown_f68 loftSize startWind seed draftLoft draftStart draftSeed length textSize start next_ token value error errorAt number undos balloons now letters best_76 weight priority room_) H → va_D A (w_X9_bestLoad kc a0 a1 a2 a3 a4 a5 a6 a7 a8 a9 a10 a11 a12 a13 a14 a15 a16 a17 a18 a19 a20 a21 a22 a23 a24 a25 a26 a27 a28 thrown_f68 loftSize startWind seed draftLoft draftStart draftSeed length textSize start next_ token value error errorAt number undos balloons now letters best_76 weight priority room_) → va_S A s.heap H locs → lv_has ls 7 [(0, .ref a0), (1, .int x1), (2, .int z2_68), (3, .int y3_68), (4, .int y4_76)] → W p l e ({ frames := 2, cells := 0, slots := 0, locals := 43 }) s m (([.ref a0, .int x1] : List Value).toArray) below meth c H locs 0 0 Q (F0 m 76 ls []) := by
              intro n
              induction n with
              | zero => intro _ _ _ _ hf; rw [f_X9_bestLoad_76.eq_1] at hf; cases hf
              | succ n ih =>
                intro y4_76 best_76 y4_76o best_76o hf hk H locs ls hP hD hS hl
                rw [f_X9_bestLoad_76.eq_2] at hf
                refine lv_iload hx hb dX9_bestLoad_76 (lv_at hl 4 rfl) ?_
                refine lv_sipush (v := 999) hx hb dX9_bestLoad_78 (by decide) ?_
                refine lv_icmp_gt (tgt := 202) hx hb dX9_bestLoad_81 (by decide) (fun hc => ?_) (fun hc => ?_)
                · have hf := o_t hc hf
                  cases hf
                  exact hk _ _ _ hP hD hS (lv_sub hl [0, 1, 2, 3, 4] rfl)
                · have hf := o_f hc hf
                  refine lv_aload_n hx hb dX9_bestLoad_84 rfl (lv_at hl 0 rfl) ?_
                  refine va_get (D := D) (ci := 9) (v := .ref a25) (C := RX9) (T := TX9) (N := 45) hx hb hts in_X9 hown hK hP 0 rfl rfl 40 (by decide) lk_91 (fun _ h9 => h9) rfl dX9_bestLoad_85 ?_
                  refine lv_sipush (v := 1000) hx hb dX9_bestLoad_88 (by decide) ?_
                  refine lv_iload_n hx hb dX9_bestLoad_91 rfl (lv_at hl 3 rfl) ?_
                  refine lv_imul hx hb dX9_bestLoad_92 ?_
                  refine lv_iload hx hb dX9_bestLoad_93 (lv_at hl 4 rfl) ?_
                  refine lv_iadd hx hb dX9_bestLoad_95 ?_
                  obtain ⟨hi, hf⟩ := gIx_some hf
                  refine va_iald hx hb hK hP 4 1 rfl rfl hi dX9_bestLoad_96 ?_
                  refine lv_istore (lv' := [(5, .int (best_76 (((1000 * y3_68) + y4_76) : Int32).toNatClampNeg)), (0, .ref a0), (1, .int x1), (2, .int z2_68), (3, .int y3_68), (4, .int y4_76)]) hx hb dX9_bestLoad_97 hl (by decide) rfl (fun ls hl => ?_)
                  refine lv_aload_n hx hb dX9_bestLoad_99 rfl (lv_at hl 1 rfl) ?_
                  refine va_get (D := D) (ci := 9) (v := .ref a1) (C := RX9) (T := TX9) (N := 45) hx hb hts in_X9 hown hK hP 0 rfl rfl 1 (by decide) lk_13 (fun _ h9 => h9) rfl dX9_bestLoad_100 ?_
                  refine lv_bipush (v := 35) hx hb dX9_bestLoad_103 (by decide) ?_
                  refine lv_iload_n hx hb dX9_bestLoad_105 rfl (lv_at hl 4 rfl) ?_
                  refine lv_iadd hx hb dX9_bestLoad_106 ?_
                  obtain ⟨hi, hf⟩ := gIx_some hf
                  refine va_iald hx hb hK hP 2 1 rfl rfl hi dX9_bestLoad_107 ?_
                  refine lv_if_ne (tgt := 145) hx hb dX9_bestLoad_108 (by decide) (fun hc => ?_) (fun hc => ?_)
                  · have hf := o_f hc hf
                    refine lv_iconst (v := (-1)) hx hb dX9_bestLoad_145 (by decide) ?_
                    refine lv_istore (lv' := [(6, .int (-1)), (5, .int (best_76 (((1000 * y3_68) + y4_76) : Int32).toNatClampNeg)), (0, .ref a0), (1, .int x1), (2, .int z2_68), (3, .int y3_68), (4, .int y4_76)]) hx hb dX9_bestLoad_146 hl (by decide) rfl (fun ls hl => ?_)
                    refine lv_aload_n hx hb dX9_bestLoad_148 rfl (lv_at hl 2 rfl) ?_
                    refine va_get (D := D) (ci := 9) (v := .ref a25) (C := RX9) (T := TX9) (N := 45) hx hb hts in_X9 hown hK hP 0 rfl rfl 40 (by decide) lk_91 (fun _ h9 => h9) rfl dX9_bestLoad_149 ?_
                    refine lv_sipush (v := 1000) hx hb dX9_bestLoad_152 (by decide) ?_
                    refine lv_iload_n hx hb dX9_bestLoad_155 rfl (lv_at hl 5 rfl) ?_
                    refine lv_iconst (v := 1) hx hb dX9_bestLoad_156 (by decide) ?_
                    refine lv_iadd hx hb dX9_bestLoad_157 ?_
                    refine lv_imul hx hb dX9_bestLoad_158 ?_
                    refine lv_iload hx hb dX9_bestLoad_159 (lv_at hl 6 rfl) ?_
                    refine lv_iadd hx hb dX9_bestLoad_161 ?_
                    refine lv_iload hx hb dX9_bestLoad_162 (lv_at hl 0 rfl) ?_
                    refine lv_if_lt (tgt := 193) hx hb dX9_bestLoad_164 (by decide) (fun hc => ?_) (fun hc => ?_)
                    · have hf := o_t hc hf
                      refine lv_iload hx hb dX9_bestLoad_193 (lv_at hl 1 rfl) ?_
                      obtain ⟨hi, hf⟩ := gIx_some hf
                      refine va_iast hx hb hK hP hD hS 4 1 rfl rfl hi dX9_bestLoad_195 (fun H locs hP hD hS => ?_)
                      have hP : va_P D vwCl (w_X9_bestLoad kc a0 a1 a2 a3 a4 a5 a6 a7 a8 a9 a10 a11 a12 a13 a14 a15 a16 a17 a18 a19 a20 a21 a22 a23 a24 a25 a26 a27 a28 thrown_f68 loftSize startWind seed draftLoft draftStart draftSeed length textSize start next_ token value error errorAt number undos balloons now letters (upd best_76 (((1000 * (y3_68 + 1)) + y4_76) : Int32).toNatClampNeg (best_76 (((1000 * y3_68) + y4_76) : Int32).toNatClampNeg)) weight priority room_) H := hP
                      have hD : va_D A (w_X9_bestLoad kc a0 a1 a2 a3 a4 a5 a6 a7 a8 a9 a10 a11 a12 a13 a14 a15 a16 a17 a18 a19 a20 a21 a22 a23 a24 a25 a26 a27 a28 thrown_f68 loftSize startWind seed draftLoft draftStart draftSeed length textSize start next_ token value error errorAt number undos balloons now letters (upd best_76 (((1000 * (y3_68 + 1)) + y4_76) : Int32).toNatClampNeg (best_76 (((1000 * y3_68) + y4_76) : Int32).toNatClampNeg)) weight priority room_) := hD
                      refine lv_iinc (v := (y4_76 + 1)) (lv' := [(4, .int (y4_76 + 1)), (6, .int (-1)), (5, .int (best_76 (((1000 * y3_68) + y4_76) : Int32).toNatClampNeg)), (0, .ref a0), (1, .int x1), (2, .int z2_68), (3, .int y3_68)]) hx hb dX9_bestLoad_196 hl (k := 6) rfl (by rfl) (by decide) rfl (fun ls hl => ?_)
                      refine lv_goto (tgt := 76) hx hb dX9_bestLoad_199 (by decide) ?_
                      exact ih _ _ _ _ hf hk _ _ _ hP hD hS (lv_sub hl [3, 4, 5, 6, 0] rfl)
                    · have hf := o_f hc hf
                      refine lv_iload hx hb dX9_bestLoad_167 (lv_at hl 0 rfl) ?_
                      refine lv_aload_n hx hb dX9_bestLoad_169 rfl (lv_at hl 2 rfl) ?_
                      refine va_get (D := D) (ci := 9) (v := .ref a19) (C := RX9) (T := TX9) (N := 45) hx hb hts in_X9 hown hK hP 0 rfl rfl 19 (by decide) lk_68 (fun _ h9 => h9) rfl dX9_bestLoad_170 ?_
                      refine lv_iload_n hx hb dX9_bestLoad_173 rfl (lv_at hl 5 rfl) ?_
                      obtain ⟨hi, hf⟩ := gIx_some hf
                      refine va_iald hx hb hK hP 6 1 rfl rfl hi dX9_bestLoad_174 ?_
                      refine lv_iadd hx hb dX9_bestLoad_175 ?_
                      refine lv_iload hx hb dX9_bestLoad_176 (lv_at hl 1 rfl) ?_
                      refine lv_icmp_le (tgt := 193) hx hb dX9_bestLoad_178 (by decide) (fun hc => ?_) (fun hc => ?_)
                      · have hf := o_t hc hf
                        refine lv_iload hx hb dX9_bestLoad_193 (lv_at hl 1 rfl) ?_
                        obtain ⟨hi, hf⟩ := gIx_some hf
                        refine va_iast hx hb hK hP hD hS 4 1 rfl rfl hi dX9_bestLoad_195 (fun H locs hP hD hS => ?_)
                        have hP : va_P D vwCl (w_X9_bestLoad kc a0 a1 a2 a3 a4 a5 a6 a7 a8 a9 a10 a11 a12 a13 a14 a15 a16 a17 a18 a19 a20 a21 a22 a23 a24 a25 a26 a27 a28 thrown_f68 loftSize startWind seed draftLoft draftStart draftSeed length textSize start next_ token value error errorAt number undos balloons now letters (upd best_76 (((1000 * (y3_68 + 1)) + y4_76) : Int32).toNatClampNeg (best_76 (((1000 * y3_68) + y4_76) : Int32).toNatClampNeg)) weight priority room_) H := hP
                        have hD : va_D A (w_X9_bestLoad kc a0 a1 a2 a3 a4 a5 a6 a7 a8 a9 a10 a11 a12 a13 a14 a15 a16 a17 a18 a19 a20 a21 a22 a23 a24 a25 a26 a27 a28 thrown_f68 loftSize startWind seed draftLoft draftStart draftSeed length textSize start next_ token value error errorAt number undos balloons now letters (upd best_76 (((1000 * (y3_68 + 1)) + y4_76) : Int32).toNatClampNeg (best_76 (((1000 * y3_68) + y4_76) : Int32).toNatClampNeg)) weight priority room_) := hD
                        refine lv_iinc (v := (y4_76 + 1)) (lv' := [(4, .int (y4_76 + 1)), (6, .int (-1)), (5, .int (best_76 (((1000 * y3_68) + y4_76) : Int32).toNatClampNeg)), (0, .ref a0), (1, .int x1), (2, .int z2_68), (3, .int y3_68)]) hx hb dX9_bestLoad_196 hl (k := 6) rfl (by rfl) (by decide) rfl (fun ls hl => ?_)
                        refine lv_goto (tgt := 76) hx hb dX9_bestLoad_199 (by decide) ?_
                        exact ih _ _ _ _ hf hk _ _ _ hP hD hS (lv_sub hl [3, 4, 5, 6, 0] rfl)
                      · have hf := o_f hc hf
                        refine lv_iload hx hb dX9_bestLoad_181 (lv_at hl 0 rfl) ?_
                        refine lv_aload_n hx hb dX9_bestLoad_183 rfl (lv_at hl 2 rfl) ?_
                        refine va_get (D := D) (ci := 9) (v := .ref a19) (C := RX9) (T := TX9) (N := 45) hx hb hts in_X9 hown hK hP 0 rfl rfl 19 (by decide) lk_68 (fun _ h9 => h9) rfl dX9_bestLoad_184 ?_
                        refine lv_iload_n hx hb dX9_bestLoad_187 rfl (lv_at hl 5 rfl) ?_
                        obtain ⟨hi, hf⟩ := gIx_some hf
                        refine va_iald hx hb hK hP 6 1 rfl rfl hi dX9_bestLoad_188 ?_
                        refine lv_iadd hx hb dX9_bestLoad_189 ?_
                        refine lv_goto (tgt := 195) hx hb dX9_bestLoad_190 (by decide) ?_
                        obtain ⟨hi, hf⟩ := gIx_some hf
                        refine va_iast hx hb hK hP hD hS 4 1 rfl rfl hi dX9_bestLoad_195 (fun H locs hP hD hS => ?_)
                        have hP : va_P D vwCl (w_X9_bestLoad kc a0 a1 a2 a3 a4 a5 a6 a7 a8 a9 a10 a11 a12 a13 a14 a15 a16 a17 a18 a19 a20 a21 a22 a23 a24 a25 a26 a27 a28 thrown_f68 loftSize startWind seed draftLoft draftStart draftSeed length textSize start next_ token value error errorAt number undos balloons now letters (upd best_76 (((1000 * (y3_68 + 1)) + y4_76) : Int32).toNatClampNeg ((-1) + (priority (y3_68 : Int32).toNatClampNeg))) weight priority room_) H := hP
                        have hD : va_D A (w_X9_bestLoad kc a0 a1 a2 a3 a4 a5 a6 a7 a8 a9 a10 a11 a12 a13 a14 a15 a16 a17 a18 a19 a20 a21 a22 a23 a24 a25 a26 a27 a28 thrown_f68 loftSize startWind seed draftLoft draftStart draftSeed length textSize start next_ token value error errorAt number undos balloons now letters (upd best_76 (((1000 * (y3_68 + 1)) + y4_76) : Int32).toNatClampNeg ((-1) + (priority (y3_68 : Int32).toNatClampNeg))) weight priority room_) := hD
                        refine lv_iinc (v := (y4_76 + 1)) (lv' := [(4, .int (y4_76 + 1)), (6, .int (-1)), (5, .int (best_76 (((1000 * y3_68) + y4_76) : Int32).toNatClampNeg)), (0, .ref a0), (1, .int x1), (2, .int z2_68), (3, .int y3_68)]) hx hb dX9_bestLoad_196 hl (k := 6) rfl (by rfl) (by decide) rfl (fun ls hl => ?_)
                        refine lv_goto (tgt := 76) hx hb dX9_bestLoad_199 (by decide) ?_
                        exact ih _ _ _ _ hf hk _ _ _ hP hD hS (lv_sub hl [3, 4, 5, 6, 0] rfl)
                  · have hf := o_t hc hf
                    refine lv_iload hx hb dX9_bestLoad_111 (lv_at hl 5 rfl) ?_
                    refine lv_aload_n hx hb dX9_bestLoad_113 rfl (lv_at hl 1 rfl) ?_
                    refine va_get (D := D) (ci := 9) (v := .ref a18) (C := RX9) (T := TX9) (N := 45) hx hb hts in_X9 hown hK hP 0 rfl rfl 18 (by decide) lk_65 (fun _ h9 => h9) rfl dX9_bestLoad_114 ?_
                    refine lv_iload_n hx hb dX9_bestLoad_117 rfl (lv_at hl 4 rfl) ?_
                    obtain ⟨hi, hf⟩ := gIx_some hf
                    refine va_iald hx hb hK hP 5 1 rfl rfl hi dX9_bestLoad_118 ?_
                    refine lv_icmp_lt (tgt := 145) hx hb dX9_bestLoad_119 (by decide) (fun hc => ?_) (fun hc => ?_)
                    · have hf := o_t hc hf
                      refine lv_iconst (v := (-1)) hx hb dX9_bestLoad_145 (by decide) ?_
                      refine lv_istore (lv' := [(6, .int (-1)), (5, .int (best_76 (((1000 * y3_68) + y4_76) : Int32).toNatClampNeg)), (0, .ref a0), (1, .int x1), (2, .int z2_68), (3, .int y3_68), (4, .int y4_76)]) hx hb dX9_bestLoad_146 hl (by decide) rfl (fun ls hl => ?_)
                      refine lv_aload_n hx hb dX9_bestLoad_148 rfl (lv_at hl 2 rfl) ?_
                      refine va_get (D := D) (ci := 9) (v := .ref a25) (C := RX9) (T := TX9) (N := 45) hx hb hts in_X9 hown hK hP 0 rfl rfl 40 (by decide) lk_91 (fun _ h9 => h9) rfl dX9_bestLoad_149 ?_
                      refine lv_sipush (v := 1000) hx hb dX9_bestLoad_152 (by decide) ?_
                      refine lv_iload_n hx hb dX9_bestLoad_155 rfl (lv_at hl 5 rfl) ?_
                      refine lv_iconst (v := 1) hx hb dX9_bestLoad_156 (by decide) ?_
                      refine lv_iadd hx hb dX9_bestLoad_157 ?_
                      refine lv_imul hx hb dX9_bestLoad_158 ?_
                      refine lv_iload hx hb dX9_bestLoad_159 (lv_at hl 6 rfl) ?_
                      refine lv_iadd hx hb dX9_bestLoad_161 ?_
                      refine lv_iload hx hb dX9_bestLoad_162 (lv_at hl 0 rfl) ?_
                      refine lv_if_lt (tgt := 193) hx hb dX9_bestLoad_164 (by decide) (fun hc => ?_) (fun hc => ?_)
                      · have hf := o_t hc hf
                        refine lv_iload hx hb dX9_bestLoad_193 (lv_at hl 1 rfl) ?_
                        obtain ⟨hi, hf⟩ := gIx_some hf
                        refine va_iast hx hb hK hP hD hS 4 1 rfl rfl hi dX9_bestLoad_195 (fun H locs hP hD hS => ?_)
                        have hP : va_P D vwCl (w_X9_bestLoad kc a0 a1 a2 a3 a4 a5 a6 a7 a8 a9 a10 a11 a12 a13 a14 a15 a16 a17 a18 a19 a20 a21 a22 a23 a24 a25 a26 a27 a28 thrown_f68 loftSize startWind seed draftLoft draftStart draftSeed length textSize start next_ token value error errorAt number undos balloons now letters (upd best_76 (((1000 * (y3_68 + 1)) + y4_76) : Int32).toNatClampNeg (best_76 (((1000 * y3_68) + y4_76) : Int32).toNatClampNeg)) weight priority room_) H := hP
                        have hD : va_D A (w_X9_bestLoad kc a0 a1 a2 a3 a4 a5 a6 a7 a8 a9 a10 a11 a12 a13 a14 a15 a16 a17 a18 a19 a20 a21 a22 a23 a24 a25 a26 a27 a28 thrown_f68 loftSize startWind seed draftLoft draftStart draftSeed length textSize start next_ token value error errorAt number undos balloons now letters (upd best_76 (((1000 * (y3_68 + 1)) + y4_76) : Int32).toNatClampNeg (best_76 (((1000 * y3_68) + y4_76) : Int32).toNatClampNeg)) weight priority room_) := hD
                        refine lv_iinc (v := (y4_76 + 1)) (lv' := [(4, .int (y4_76 + 1)), (6, .int (-1)), (5, .int (best_76 (((1000 * y3_68) + y4_76) : Int32).toNatClampNeg)), (0, .ref a0), (1, .int x1), (2, .int z2_68), (3, .int y3_68)]) hx hb dX9_bestLoad_196 hl (k := 6) rfl (by rfl) (by decide) rfl (fun ls hl => ?_)
                        refine lv_goto (tgt := 76) hx hb dX9_bestLoad_199 (by decide) ?_
                        exact ih _ _ _ _ hf hk _ _ _ hP hD hS (lv_sub hl [3, 4, 5, 6, 0] rfl)
                      · have hf := o_f hc hf
                        refine lv_iload hx hb dX9_bestLoad_167 (lv_at hl 0 rfl) ?_
                        refine lv_aload_n hx hb dX9_bestLoad_169 rfl (lv_at hl 2 rfl) ?_
                        refine va_get (D := D) (ci := 9) (v := .ref a19) (C := RX9) (T := TX9) (N := 45) hx hb hts in_X9 hown hK hP 0 rfl rfl 19 (by decide) lk_68 (fun _ h9 => h9) rfl dX9_bestLoad_170 ?_
                        refine lv_iload_n hx hb dX9_bestLoad_173 rfl (lv_at hl 5 rfl) ?_
                        obtain ⟨hi, hf⟩ := gIx_some hf
                        refine va_iald hx hb hK hP 6 1 rfl rfl hi dX9_bestLoad_174 ?_
                        refine lv_iadd hx hb dX9_bestLoad_175 ?_
                        refine lv_iload hx hb dX9_bestLoad_176 (lv_at hl 1 rfl) ?_
                        refine lv_icmp_le (tgt := 193) hx hb dX9_bestLoad_178 (by decide) (fun hc => ?_) (fun hc => ?_)
                        · have hf := o_t hc hf
                          refine lv_iload hx hb dX9_bestLoad_193 (lv_at hl 1 rfl) ?_
                          obtain ⟨hi, hf⟩ := gIx_some hf
                          refine va_iast hx hb hK hP hD hS 4 1 rfl rfl hi dX9_bestLoad_195 (fun H locs hP hD hS => ?_)
                          have hP : va_P D vwCl (w_X9_bestLoad kc a0 a1 a2 a3 a4 a5 a6 a7 a8 a9 a10 a11 a12 a13 a14 a15 a16 a17 a18 a19 a20 a21 a22 a23 a24 a25 a26 a27 a28 thrown_f68 loftSize startWind seed draftLoft draftStart draftSeed length textSize start next_ token value error errorAt number undos balloons now letters (upd best_76 (((1000 * (y3_68 + 1)) + y4_76) : Int32).toNatClampNeg (best_76 (((1000 * y3_68) + y4_76) : Int32).toNatClampNeg)) weight priority room_) H := hP
                          have hD : va_D A (w_X9_bestLoad kc a0 a1 a2 a3 a4 a5 a6 a7 a8 a9 a10 a11 a12 a13 a14 a15 a16 a17 a18 a19 a20 a21 a22 a23 a24 a25 a26 a27 a28 thrown_f68 loftSize startWind seed draftLoft draftStart draftSeed length textSize start next_ token value error errorAt number undos balloons now letters (upd best_76 (((1000 * (y3_68 + 1)) + y4_76) : Int32).toNatClampNeg (best_76 (((1000 * y3_68) + y4_76) : Int32).toNatClampNeg)) weight priority room_) := hD
                          refine lv_iinc (v := (y4_76 + 1)) (lv' := [(4, .int (y4_76 + 1)), (6, .int (-1)), (5, .int (best_76 (((1000 * y3_68) + y4_76) : Int32).toNatClampNeg)), (0, .ref a0), (1, .int x1), (2, .int z2_68), (3, .int y3_68)]) hx hb dX9_bestLoad_196 hl (k := 6) rfl (by rfl) (by decide) rfl (fun ls hl => ?_)
                          refine lv_goto (tgt := 76) hx hb dX9_bestLoad_199 (by decide) ?_
                          exact ih _ _ _ _ hf hk _ _ _ hP hD hS (lv_sub hl [3, 4, 5, 6, 0] rfl)
                        · have hf := o_f hc hf
                          refine lv_iload hx hb dX9_bestLoad_181 (lv_at hl 0 rfl) ?_
                          refine lv_aload_n hx hb dX9_bestLoad_183 rfl (lv_at hl 2 rfl) ?_
                          refine va_get (D := D) (ci := 9) (v := .ref a19) (C := RX9) (T := TX9) (N := 45) hx hb hts in_X9 hown hK hP 0 rfl rfl 19 (by decide) lk_68 (fun _ h9 => h9) rfl dX9_bestLoad_184 ?_
                          refine lv_iload_n hx hb dX9_bestLoad_187 rfl (lv_at hl 5 rfl) ?_
                          obtain ⟨hi, hf⟩ := gIx_some hf
                          refine va_iald hx hb hK hP 6 1 rfl rfl hi dX9_bestLoad_188 ?_
                          refine lv_iadd hx hb dX9_bestLoad_189 ?_
                          refine lv_goto (tgt := 195) hx hb dX9_bestLoad_190 (by decide) ?_
                          obtain ⟨hi, hf⟩ := gIx_some hf
                          refine va_iast hx hb hK hP hD hS 4 1 rfl rfl hi dX9_bestLoad_195 (fun H locs hP hD hS => ?_)
                          have hP : va_P D vwCl (w_X9_bestLoad kc a0 a1 a2 a3 a4 a5 a6 a7 a8 a9 a10 a11 a12 a13 a14 a15 a16 a17 a18 a19 a20 a21 a22 a23 a24 a25 a26 a27 a28 thrown_f68 loftSize startWind seed draftLoft draftStart draftSeed length textSize start next_ token value error errorAt number undos balloons now letters (upd best_76 (((1000 * (y3_68 + 1)) + y4_76) : Int32).toNatClampNeg ((-1) + (priority (y3_68 : Int32).toNatClampNeg))) weight priority room_) H := hP
                          have hD : va_D A (w_X9_bestLoad kc a0 a1 a2 a3 a4 a5 a6 a7 a8 a9 a10 a11 a12 a13 a14 a15 a16 a17 a18 a19 a20 a21 a22 a23 a24 a25 a26 a27 a28 thrown_f68 loftSize startWind seed draftLoft draftStart draftSeed length textSize start next_ token value error errorAt number undos balloons now letters (upd best_76 (((1000 * (y3_68 + 1)) + y4_76) : Int32).toNatClampNeg ((-1) + (priority (y3_68 : Int32).toNatClampNeg))) weight priority room_) := hD
                          refine lv_iinc (v := (y4_76 + 1)) (lv' := [(4, .int (y4_76 + 1)), (6, .int (-1)), (5, .int (best_76 (((1000 * y3_68) + y4_76) : Int32).toNatClampNeg)), (0, .ref a0), (1, .int x1), (2, .int z2_68), (3, .int y3_68)]) hx hb dX9_bestLoad_196 hl (k := 6) rfl (by rfl) (by decide) rfl (fun ls hl => ?_)
                          refine lv_goto (tgt := 76) hx hb dX9_bestLoad_199 (by decide) ?_
                          exact ih _ _ _ _ hf hk _ _ _ hP hD hS (lv_sub hl [3, 4, 5, 6, 0] rfl)
                    · have hf := o_f hc hf
                      refine lv_aload_n hx hb dX9_bestLoad_122 rfl (lv_at hl 1 rfl) ?_
                      refine va_get (D := D) (ci := 9) (v := .ref a25) (C := RX9) (T := TX9) (N := 45) hx hb hts in_X9 hown hK hP 0 rfl rfl 40 (by decide) lk_91 (fun _ h9 => h9) rfl dX9_bestLoad_123 ?_
                      refine lv_sipush (v := 1000) hx hb dX9_bestLoad_126 (by decide) ?_
                      refine lv_iload_n hx hb dX9_bestLoad_129 rfl (lv_at hl 4 rfl) ?_
                      refine lv_imul hx hb dX9_bestLoad_130 ?_
                      refine lv_iload hx hb dX9_bestLoad_131 (lv_at hl 5 rfl) ?_
                      refine lv_iadd hx hb dX9_bestLoad_133 ?_
                      refine lv_aload_n hx hb dX9_bestLoad_134 rfl (lv_at hl 1 rfl) ?_
                      refine va_get (D := D) (ci := 9) (v := .ref a18) (C := RX9) (T := TX9) (N := 45) hx hb hts in_X9 hown hK hP 0 rfl rfl 18 (by decide) lk_65 (fun _ h9 => h9) rfl dX9_bestLoad_135 ?_
                      refine lv_iload_n hx hb dX9_bestLoad_138 rfl (lv_at hl 4 rfl) ?_
                      obtain ⟨hi, hf⟩ := gIx_some hf
                      refine va_iald hx hb hK hP 5 1 rfl rfl hi dX9_bestLoad_139 ?_
                      refine lv_isub hx hb dX9_bestLoad_140 ?_
                      obtain ⟨hi, hf⟩ := gIx_some hf
                      refine va_iald hx hb hK hP 4 1 rfl rfl hi dX9_bestLoad_141 ?_
                      refine lv_goto (tgt := 146) hx hb dX9_bestLoad_142 (by decide) ?_
                      refine lv_istore (lv' := [(6, .int (best_76 ((((1000 * y3_68) + y4_76) - (weight (y3_68 : Int32).toNatClampNeg)) : Int32).toNatClampNeg)), (5, .int (best_76 (((1000 * y3_68) + y4_76) : Int32).toNatClampNeg)), (0, .ref a0), (1, .int x1), (2, .int z2_68), (3, .int y3_68), (4, .int y4_76)]) hx hb dX9_bestLoad_146 hl (by decide) rfl (fun ls hl => ?_)
                      refine lv_aload_n hx hb dX9_bestLoad_148 rfl (lv_at hl 2 rfl) ?_
                      refine va_get (D := D) (ci := 9) (v := .ref a25) (C := RX9) (T := TX9) (N := 45) hx hb hts in_X9 hown hK hP 0 rfl rfl 40 (by decide) lk_91 (fun _ h9 => h9) rfl dX9_bestLoad_149 ?_
                      refine lv_sipush (v := 1000) hx hb dX9_bestLoad_152 (by decide) ?_
                      refine lv_iload_n hx hb dX9_bestLoad_155 rfl (lv_at hl 5 rfl) ?_
                      refine lv_iconst (v := 1) hx hb dX9_bestLoad_156 (by decide) ?_
                      refine lv_iadd hx hb dX9_bestLoad_157 ?_
                      refine lv_imul hx hb dX9_bestLoad_158 ?_
                      refine lv_iload hx hb dX9_bestLoad_159 (lv_at hl 6 rfl) ?_
                      refine lv_iadd hx hb dX9_bestLoad_161 ?_
                      refine lv_iload hx hb dX9_bestLoad_162 (lv_at hl 0 rfl) ?_
                      refine lv_if_lt (tgt := 193) hx hb dX9_bestLoad_164 (by decide) (fun hc => ?_) (fun hc => ?_)
                      · have hf := o_t hc hf
                        refine lv_iload hx hb dX9_bestLoad_193 (lv_at hl 1 rfl) ?_
                        obtain ⟨hi, hf⟩ := gIx_some hf
                        refine va_iast hx hb hK hP hD hS 4 1 rfl rfl hi dX9_bestLoad_195 (fun H locs hP hD hS => ?_)
                        have hP : va_P D vwCl (w_X9_bestLoad kc a0 a1 a2 a3 a4 a5 a6 a7 a8 a9 a10 a11 a12 a13 a14 a15 a16 a17 a18 a19 a20 a21 a22 a23 a24 a25 a26 a27 a28 thrown_f68 loftSize startWind seed draftLoft draftStart draftSeed length textSize start next_ token value error errorAt number undos balloons now letters (upd best_76 (((1000 * (y3_68 + 1)) + y4_76) : Int32).toNatClampNeg (best_76 (((1000 * y3_68) + y4_76) : Int32).toNatClampNeg)) weight priority room_) H := hP
                        have hD : va_D A (w_X9_bestLoad kc a0 a1 a2 a3 a4 a5 a6 a7 a8 a9 a10 a11 a12 a13 a14 a15 a16 a17 a18 a19 a20 a21 a22 a23 a24 a25 a26 a27 a28 thrown_f68 loftSize startWind seed draftLoft draftStart draftSeed length textSize start next_ token value error errorAt number undos balloons now letters (upd best_76 (((1000 * (y3_68 + 1)) + y4_76) : Int32).toNatClampNeg (best_76 (((1000 * y3_68) + y4_76) : Int32).toNatClampNeg)) weight priority room_) := hD
                        refine lv_iinc (v := (y4_76 + 1)) (lv' := [(4, .int (y4_76 + 1)), (6, .int (best_76 ((((1000 * y3_68) + y4_76) - (weight (y3_68 : Int32).toNatClampNeg)) : Int32).toNatClampNeg)), (5, .int (best_76 (((1000 * y3_68) + y4_76) : Int32).toNatClampNeg)), (0, .ref a0), (1, .int x1), (2, .int z2_68), (3, .int y3_68)]) hx hb dX9_bestLoad_196 hl (k := 6) rfl (by rfl) (by decide) rfl (fun ls hl => ?_)
                        refine lv_goto (tgt := 76) hx hb dX9_bestLoad_199 (by decide) ?_
                        exact ih _ _ _ _ hf hk _ _ _ hP hD hS (lv_sub hl [3, 4, 5, 6, 0] rfl)
                      · have hf := o_f hc hf
                        refine lv_iload hx hb dX9_bestLoad_167 (lv_at hl 0 rfl) ?_
                        refine lv_aload_n hx hb dX9_bestLoad_169 rfl (lv_at hl 2 rfl) ?_
                        refine va_get (D := D) (ci := 9) (v := .ref a19) (C := RX9) (T := TX9) (N := 45) hx hb hts in_X9 hown hK hP 0 rfl rfl 19 (by decide) lk_68 (fun _ h9 => h9) rfl dX9_bestLoad_170 ?_
                        refine lv_iload_n hx hb dX9_bestLoad_173 rfl (lv_at hl 5 rfl) ?_
                        obtain ⟨hi, hf⟩ := gIx_some hf
                        refine va_iald hx hb hK hP 6 1 rfl rfl hi dX9_bestLoad_174 ?_
                        refine lv_iadd hx hb dX9_bestLoad_175 ?_
                        refine lv_iload hx hb dX9_bestLoad_176 (lv_at hl 1 rfl) ?_
                        refine lv_icmp_le (tgt := 193) hx hb dX9_bestLoad_178 (by decide) (fun hc => ?_) (fun hc => ?_)
                        · have hf := o_t hc hf
                          refine lv_iload hx hb dX9_bestLoad_193 (lv_at hl 1 rfl) ?_
                          obtain ⟨hi, hf⟩ := gIx_some hf
                          refine va_iast hx hb hK hP hD hS 4 1 rfl rfl hi dX9_bestLoad_195 (fun H locs hP hD hS => ?_)
                          have hP : va_P D vwCl (w_X9_bestLoad kc a0 a1 a2 a3 a4 a5 a6 a7 a8 a9 a10 a11 a12 a13 a14 a15 a16 a17 a18 a19 a20 a21 a22 a23 a24 a25 a26 a27 a28 thrown_f68 loftSize startWind seed draftLoft draftStart draftSeed length textSize start next_ token value error errorAt number undos balloons now letters (upd best_76 (((1000 * (y3_68 + 1)) + y4_76) : Int32).toNatClampNeg (best_76 (((1000 * y3_68) + y4_76) : Int32).toNatClampNeg)) weight priority room_) H := hP
                          have hD : va_D A (w_X9_bestLoad kc a0 a1 a2 a3 a4 a5 a6 a7 a8 a9 a10 a11 a12 a13 a14 a15 a16 a17 a18 a19 a20 a21 a22 a23 a24 a25 a26 a27 a28 thrown_f68 loftSize startWind seed draftLoft draftStart draftSeed length textSize start next_ token value error errorAt number undos balloons now letters (upd best_76 (((1000 * (y3_68 + 1)) + y4_76) : Int32).toNatClampNeg (best_76 (((1000 * y3_68) + y4_76) : Int32).toNatClampNeg)) weight priority room_) := hD
                          refine lv_iinc (v := (y4_76 + 1)) (lv' := [(4, .int (y4_76 + 1)), (6, .int (best_76 ((((1000 * y3_68) + y4_76) - (weight (y3_68 : Int32).toNatClampNeg)) : Int32).toNatClampNeg)), (5, .int (best_76 (((1000 * y3_68) + y4_76) : Int32).toNatClampNeg)), (0, .ref a0), (1, .int x1), (2, .int z2_68), (3, .int y3_68)]) hx hb dX9_bestLoad_196 hl (k := 6) rfl (by rfl) (by decide) rfl (fun ls hl => ?_)
                          refine lv_goto (tgt := 76) hx hb dX9_bestLoad_199 (by decide) ?_
                          exact ih _ _ _ _ hf hk _ _ _ hP hD hS (lv_sub hl [3, 4, 5, 6, 0] rfl)
                        · have hf := o_f hc hf
                          refine lv_iload hx hb dX9_bestLoad_181 (lv_at hl 0 rfl) ?_
                          refine lv_aload_n hx hb dX9_bestLoad_183 rfl (lv_at hl 2 rfl) ?_
                          refine va_get (D := D) (ci := 9) (v := .ref a19) (C := RX9) (T := TX9) (N := 45) hx hb hts in_X9 hown hK hP 0 rfl rfl 19 (by decide) lk_68 (fun _ h9 => h9) rfl dX9_bestLoad_184 ?_
                          refine lv_iload_n hx hb dX9_bestLoad_187 rfl (lv_at hl 5 rfl) ?_
                          obtain ⟨hi, hf⟩ := gIx_some hf
                          refine va_iald hx hb hK hP 6 1 rfl rfl hi dX9_bestLoad_188 ?_
                          refine lv_iadd hx hb dX9_bestLoad_189 ?_
                          refine lv_goto (tgt := 195) hx hb dX9_bestLoad_190 (by decide) ?_
                          obtain ⟨hi, hf⟩ := gIx_some hf
                          refine va_iast hx hb hK hP hD hS 4 1 rfl rfl hi dX9_bestLoad_195 (fun H locs hP hD hS => ?_)
                          have hP : va_P D vwCl (w_X9_bestLoad kc a0 a1 a2 a3 a4 a5 a6 a7 a8 a9 a10 a11 a12 a13 a14 a15 a16 a17 a18 a19 a20 a21 a22 a23 a24 a25 a26 a27 a28 thrown_f68 loftSize startWind seed draftLoft draftStart draftSeed length textSize start next_ token value error errorAt number undos balloons now letters (upd best_76 (((1000 * (y3_68 + 1)) + y4_76) : Int32).toNatClampNeg ((best_76 ((((1000 * y3_68) + y4_76) - (weight (y3_68 : Int32).toNatClampNeg)) : Int32).toNatClampNeg) + (priority (y3_68 : Int32).toNatClampNeg))) weight priority room_) H := hP
                          have hD : va_D A (w_X9_bestLoad kc a0 a1 a2 a3 a4 a5 a6 a7 a8 a9 a10 a11 a12 a13 a14 a15 a16 a17 a18 a19 a20 a21 a22 a23 a24 a25 a26 a27 a28 thrown_f68 loftSize startWind seed draftLoft draftStart draftSeed length textSize start next_ token value error errorAt number undos balloons now letters (upd best_76 (((1000 * (y3_68 + 1)) + y4_76) : Int32).toNatClampNeg ((best_76 ((((1000 * y3_68) + y4_76) - (weight (y3_68 : Int32).toNatClampNeg)) : Int32).toNatClampNeg) + (priority (y3_68 : Int32).toNatClampNeg))) weight priority room_) := hD
                          refine lv_iinc (v := (y4_76 + 1)) (lv' := [(4, .int (y4_76 + 1)), (6, .int (best_76 ((((1000 * y3_68) + y4_76) - (weight (y3_68 : Int32).toNatClampNeg)) : Int32).toNatClampNeg)), (5, .int (best_76 (((1000 * y3_68) + y4_76) : Int32).toNatClampNeg)), (0, .ref a0), (1, .int x1), (2, .int z2_68), (3, .int y3_68)]) hx hb dX9_bestLoad_196 hl (k := 6) rfl (by rfl) (by decide) rfl (fun ls hl => ?_)
                          refine lv_goto (tgt := 76) hx hb dX9_bestLoad_199 (by decide) ?_
                          exact ih _ _ _ _ hf hk _ _ _ hP hD hS (lv_sub hl [3, 4, 5, 6, 0] rfl)
            obtain ⟨y4_76o, best_76o, hc, hf⟩ := ob2_some hf
            refine L76 N _ _ _ _ hc (fun H locs ls hP hD hS hl => ?_) _ _ _ hP hD hS (lv_sub hl [1, 2, 3, 4, 0] rfl)
            refine lv_iinc (v := (y3_68 + 1)) (lv' := [(3, .int (y3_68 + 1)), (0, .ref a0), (1, .int x1), (2, .int z2_68), (4, .int y4_76o)]) hx hb dX9_bestLoad_202 hl (k := 3) rfl (by rfl) (by decide) rfl (fun ls hl => ?_)
            refine lv_goto (tgt := 68) hx hb dX9_bestLoad_205 (by decide) ?_
            exact ih _ _ _ _ hf hk _ _ _ hP hD hS (lv_sub hl [1, 2, 3, 0] rfl)
      obtain ⟨y3_68o, best_68o, hc, hf⟩ := ob2_some hf
      refine L68 (letters (0 : Int32).toNatClampNeg) 0 N _ _ _ _ hc (fun H locs ls hP hD hS hl => ?_) _ _ _ hP hD hS (lv_sub hl [1, 2, 3, 0] rfl)
      refine lv_iconst (v := 0) hx hb dX9_bestLoad_208 (by decide) ?_
      refine lv_istore_n (lv' := [(3, .int 0), (0, .ref a0), (1, .int x1), (2, .int (letters (0 : Int32).toNatClampNeg))]) hx hb dX9_bestLoad_209 rfl hl (by decide) rfl (fun ls hl => ?_)
      refine lv_iconst (v := 0) hx hb dX9_bestLoad_210 (by decide) ?_
      refine lv_istore (lv' := [(4, .int 0), (3, .int 0), (0, .ref a0), (1, .int x1), (2, .int (letters (0 : Int32).toNatClampNeg))]) hx hb dX9_bestLoad_211 hl (by decide) rfl (fun ls hl => ?_)
      have L213 : ∀ (z2_213 : Int32) (thrown_f213 : Int32) (n : Nat) (y4_213 : Int32) (y3_213 : Int32) (y4_213o : Int32) (y3_213o : Int32), f_X9_bestLoad_213 N room_ x1 best_68o z2_213 n y4_213 y3_213 = some (y4_213o, y3_213o) → (∀ (H : Heap) (locs : List Loc) (ls : Array Slot), va_P D vwCl (w_X9_bestLoad kc a0 a1 a2 a3 a4 a5 a6 a7 a8 a9 a10 a11 a12 a13 a14 a15 a16 a17 a18 a19 a20 a21 a22 a23 a24 a25 a26 a27 a28 thrown_f213 loftSize startWind seed draftLoft draftStart draftSeed length textSize start next_ token value error errorAt number undos balloons now letters best_68o weight priority room_) H → va_D A (w_X9_bestLoad kc a0 a1 a2 a3 a4 a5 a6 a7 a8 a9 a10 a11 a12 a13 a14 a15 a16 a17 a18 a19 a20 a21 a22 a23 a24 a25 a26 a27 a28 thrown_f213 loftSize startWind seed draftLoft draftStart draftSeed length textSize start next_ token value error errorAt number undos balloons now letters best_68o weight priority room_) → va_S A s.heap H locs → lv_has ls 7 [(0, .ref a0), (1, .int x1), (2, .int z2_213), (3, .int y3_213o), (4, .int y4_213o)] → W p l e ({ frames := 2, cells := 0, slots := 0, locals := 43 }) s m (([.ref a0, .int x1] : List Value).toArray) below meth c H locs 0 0 Q (F0 m 265 ls [])) → ∀ (H : Heap) (locs : List Loc) (ls : Array Slot), va_P D vwCl (w_X9_bestLoad kc a0 a1 a2 a3 a4 a5 a6 a7 a8 a9 a10 a11 a12 a13 a14 a15 a16 a17 a18 a19 a20 a21 a22 a23 a24 a25 a26 a27 a28 thrown_f213 loftSize startWind seed draftLoft draftStart draftSeed length textSize start next_ token value error errorAt number undos balloons now letters best_68o weight priority room_) H → va_D A (w_X9_bestLoad kc a0 a1 a2 a3 a4 a5 a6 a7 a8 a9 a10 a11 a12 a13 a14 a15 a16 a17 a18 a19 a20 a21 a22 a23 a24 a25 a26 a27 a28 thrown_f213 loftSize startWind seed draftLoft draftStart draftSeed length textSize start next_ token value error errorAt number undos balloons now letters best_68o weight priority room_) → va_S A s.heap H locs → lv_has ls 7 [(0, .ref a0), (1, .int x1), (2, .int z2_213), (3, .int y3_213), (4, .int y4_213)] → W p l e ({ frames := 2, cells := 0, slots := 0, locals := 43 }) s m (([.ref a0, .int x1] : List Value).toArray) below meth c H locs 0 0 Q (F0 m 213 ls []) := by
        intro z2_213 thrown_f213 n
        induction n with
        | zero => intro _ _ _ _ hf; rw [f_X9_bestLoad_213.eq_1] at hf; cases hf
        | succ n ih =>
          intro y4_213 y3_213 y4_213o y3_213o hf hk H locs ls hP hD hS hl
          rw [f_X9_bestLoad_213.eq_2] at hf
          refine lv_iload hx hb dX9_bestLoad_213 (lv_at hl 4 rfl) ?_
          refine lv_aload_n hx hb dX9_bestLoad_215 rfl (lv_at hl 0 rfl) ?_
          refine va_get (D := D) (ci := 9) (v := .ref a15) (C := RX9) (T := TX9) (N := 45) hx hb hts in_X9 hown hK hP 0 rfl rfl 15 (by decide) lk_56 (fun _ h9 => h9) rfl dX9_bestLoad_216 ?_
          refine lv_iload_n hx hb dX9_bestLoad_219 rfl (lv_at hl 1 rfl) ?_
          obtain ⟨hi, hf⟩ := gIx_some hf
          refine va_iald hx hb hK hP 7 1 rfl rfl hi dX9_bestLoad_220 ?_
          refine lv_icmp_gt (tgt := 265) hx hb dX9_bestLoad_221 (by decide) (fun hc => ?_) (fun hc => ?_)
          · have hf := o_t hc hf
            cases hf
            exact hk _ _ _ hP hD hS (lv_sub hl [0, 1, 2, 3, 4] rfl)
          · have hf := o_f hc hf
            refine lv_aload_n hx hb dX9_bestLoad_224 rfl (lv_at hl 0 rfl) ?_
            refine va_get (D := D) (ci := 9) (v := .ref a25) (C := RX9) (T := TX9) (N := 45) hx hb hts in_X9 hown hK hP 0 rfl rfl 40 (by decide) lk_91 (fun _ h9 => h9) rfl dX9_bestLoad_225 ?_
            refine lv_sipush (v := 1000) hx hb dX9_bestLoad_228 (by decide) ?_
            refine lv_iload_n hx hb dX9_bestLoad_231 rfl (lv_at hl 2 rfl) ?_
            refine lv_imul hx hb dX9_bestLoad_232 ?_
            refine lv_iload hx hb dX9_bestLoad_233 (lv_at hl 4 rfl) ?_
            refine lv_iadd hx hb dX9_bestLoad_235 ?_
            obtain ⟨hi, hf⟩ := gIx_some hf
            refine va_iald hx hb hK hP 4 1 rfl rfl hi dX9_bestLoad_236 ?_
            refine lv_aload_n hx hb dX9_bestLoad_237 rfl (lv_at hl 0 rfl) ?_
            refine va_get (D := D) (ci := 9) (v := .ref a25) (C := RX9) (T := TX9) (N := 45) hx hb hts in_X9 hown hK hP 0 rfl rfl 40 (by decide) lk_91 (fun _ h9 => h9) rfl dX9_bestLoad_238 ?_
            refine lv_sipush (v := 1000) hx hb dX9_bestLoad_241 (by decide) ?_
            refine lv_iload_n hx hb dX9_bestLoad_244 rfl (lv_at hl 2 rfl) ?_
            refine lv_imul hx hb dX9_bestLoad_245 ?_
            refine lv_iload_n hx hb dX9_bestLoad_246 rfl (lv_at hl 3 rfl) ?_
            refine lv_iadd hx hb dX9_bestLoad_247 ?_
            obtain ⟨hi, hf⟩ := gIx_some hf
            refine va_iald hx hb hK hP 4 1 rfl rfl hi dX9_bestLoad_248 ?_
            refine lv_icmp_le (tgt := 257) hx hb dX9_bestLoad_249 (by decide) (fun hc => ?_) (fun hc => ?_)
            · have hf := o_t hc hf
              refine lv_iload_n hx hb dX9_bestLoad_257 rfl (lv_at hl 3 rfl) ?_
              refine lv_istore_n (lv' := [(3, .int y3_213), (0, .ref a0), (1, .int x1), (2, .int z2_213), (4, .int y4_213)]) hx hb dX9_bestLoad_258 rfl hl (by decide) rfl (fun ls hl => ?_)
              refine lv_iinc (v := (y4_213 + 1)) (lv' := [(4, .int (y4_213 + 1)), (3, .int y3_213), (0, .ref a0), (1, .int x1), (2, .int z2_213)]) hx hb dX9_bestLoad_259 hl (k := 4) rfl (by rfl) (by decide) rfl (fun ls hl => ?_)
              refine lv_goto (tgt := 213) hx hb dX9_bestLoad_262 (by decide) ?_
              exact ih _ _ _ _ hf hk _ _ _ hP hD hS (lv_sub hl [2, 3, 4, 1, 0] rfl)
            · have hf := o_f hc hf
              refine lv_iload hx hb dX9_bestLoad_252 (lv_at hl 4 rfl) ?_
              refine lv_goto (tgt := 258) hx hb dX9_bestLoad_254 (by decide) ?_
              refine lv_istore_n (lv' := [(3, .int y4_213), (0, .ref a0), (1, .int x1), (2, .int z2_213), (4, .int y4_213)]) hx hb dX9_bestLoad_258 rfl hl (by decide) rfl (fun ls hl => ?_)
              refine lv_iinc (v := (y4_213 + 1)) (lv' := [(4, .int (y4_213 + 1)), (3, .int y4_213), (0, .ref a0), (1, .int x1), (2, .int z2_213)]) hx hb dX9_bestLoad_259 hl (k := 4) rfl (by rfl) (by decide) rfl (fun ls hl => ?_)
              refine lv_goto (tgt := 213) hx hb dX9_bestLoad_262 (by decide) ?_
              exact ih _ _ _ _ hf hk _ _ _ hP hD hS (lv_sub hl [2, 3, 4, 1, 0] rfl)
      obtain ⟨y4_213o, y3_213o, hc, hf⟩ := ob2_some hf
      refine L213 (letters (0 : Int32).toNatClampNeg) 0 N _ _ _ _ hc (fun H locs ls hP hD hS hl => ?_) _ _ _ hP hD hS (lv_sub hl [2, 3, 4, 1, 0] rfl)
      refine lv_aload_n hx hb dX9_bestLoad_265 rfl (lv_at hl 0 rfl) ?_
      refine lv_iload_n hx hb dX9_bestLoad_266 rfl (lv_at hl 2 rfl) ?_
      refine lv_iload_n hx hb dX9_bestLoad_267 rfl (lv_at hl 3 rfl) ?_
      obtain ⟨r_3, hc, hf⟩ := ob1_some hf
      refine g_VI (As := [.int (letters (0 : Int32).toNatClampNeg), .int y3_213o]) (rest := []) (ws' := (w_X9_bestLoad kc a0 a1 a2 a3 a4 a5 a6 a7 a8 a9 a10 a11 a12 a13 a14 a15 a16 a17 a18 a19 a20 a21 a22 a23 a24 a25 a26 a27 a28 0 loftSize startWind seed draftLoft draftStart draftSeed length textSize start next_ token value error errorAt number undos balloons now letters best_68o weight priority room_)) ⟨hx, hb, hml, hown, hts⟩ hN hK hP hD hS hA (c_X9_lowest l D kc N a0 a1 a2 a3 a4 a5 a6 a7 a8 a9 a10 a11 a12 a13 a14 a15 a16 a17 a18 a19 a20 a21 a22 a23 a24 a25 a26 a27 a28 0 loftSize startWind seed draftLoft draftStart draftSeed length textSize start next_ token value error errorAt number undos best_68o weight priority (letters (0 : Int32).toNatClampNeg) y3_213o r_3 hc) (cwV 2 hts gX9_bestLoad_X9_lowest rfl rfl rfl (by decide +kernel) ⟨Nat.le_of_ble_eq_true rfl, Nat.le_of_ble_eq_true rfl⟩) [0, 4, 5, 6] [1, 2, 3, 7] [4, 0, 1, 2, 5, 6, 7, 3] (by exact ⟨rfl, rfl, by decide, rfl⟩) 0 9 rfl rfl rfl rfl hl.1 rfl (Nat.le_of_ble_eq_true rfl) dX9_bestLoad_268 ⟨Nat.le_refl _, Nat.le_refl _⟩ (fun H locs hP hD hS => ?_)
      cases hf
      exact kR _ _ _ _ hP hD hS dX9_bestLoad_271
    · have hf := o_f hc hf
      refine lv_bipush (v := (-2)) hx hb dX9_bestLoad_26 (by decide) ?_
      cases hf
      exact kR _ _ _ _ hP hD hS dX9_bestLoad_28
  · have hf := o_t hc hf
    refine lv_iconst (v := (-1)) hx hb dX9_bestLoad_13 (by decide) ?_
    cases hf
    exact kR _ _ _ _ hP hD hS dX9_bestLoad_14
