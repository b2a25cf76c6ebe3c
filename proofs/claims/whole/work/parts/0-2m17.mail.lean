abbrev w_X8_appendBytes (kc : Nat → ClassId) (a0 a1 a2 a3 a4 a5 a6 a7 a8 a9 a10 a11 : Nat) (textLength : Int32) (errorPlace : Int32) (undoable : Int32) (newest : Int32) (text : Nat → Int32) : va_W := [(a0, .inr (8, [.ref a1, .ref a2, .ref a3, .ref a4, .ref a5, .ref a6, .ref a7, .ref a8, .ref a9, .int textLength, .int errorPlace, .int undoable, .int newest, .ref a10, .ref a11])), (a1, .inl (kc 0, 900, .inl text))]
set_option maxHeartbeats 4000000 in
set_option maxRecDepth 100000 in
theorem c_X8_appendBytes (l : Launch) (D : va_G) (kc : Nat → ClassId) (N : Nat) (a0 a1 a2 a3 a4 a5 a6 a7 a8 a9 a10 a11 : Nat) (textLength : Int32) (errorPlace : Int32) (undoable : Int32) (newest : Int32) (text : Nat → Int32) (x1 : Int32) (textLength' : Int32) (text' : Nat → Int32) (hf : f_X8_appendBytes N textLength text x1 = some (textLength', text')) : MV l yX8_appendBytes wsX8_appendBytes ({ frames := 0, cells := 0, slots := 0, locals := 0 }) D kc [.ref a0, .int x1] (w_X8_appendBytes kc a0 a1 a2 a3 a4 a5 a6 a7 a8 a9 a10 a11 textLength errorPlace undoable newest text) (w_X8_appendBytes kc a0 a1 a2 a3 a4 a5 a6 a7 a8 a9 a10 a11 textLength' errorPlace undoable newest text') := by
  refine gM_V (cc := cX8_appendBytes) (maxL := 3) (by decide) rfl (Nat.le_of_ble_eq_true rfl) ?_
  intro p e s m below meth c A ls Q hx hb hml hown hts hN hK hP hD hA hl kR
  have hS : va_S A s.heap s.heap [] := va_S.rf
  have hl : lv_has ls 3 [(0, .ref a0), (1, .int x1)] := hl
  have in_X8 : ∀ w ∈ u_ws RX8 TX8 15, w ∈ wsX8_appendBytes := by decide +kernel
  have lk_77 := hts (.fieldLink RX8 77 "BalloonMail" "textLength" "I") (by decide +kernel)
  have lk_9 := hts (.fieldLink RX8 9 "BalloonMail" "text" "[B") (by decide +kernel)
  unfold f_X8_appendBytes at hf
  refine lv_bipush (v := 24) hx hb dX8_appendBytes_0 (by decide) ?_
  refine lv_istore_n (lv' := [(2, .int 24), (0, .ref a0), (1, .int x1)]) hx hb dX8_appendBytes_2 rfl hl (by decide) rfl (fun ls hl => ?_)
  have L3 : ∀ (n : Nat) (y2_3 : Int32) (textLength_3 : Int32) (text_3 : Nat → Int32) (y2_3o : Int32) (textLength_3o : Int32) (text_3o : Nat → Int32), f_X8_appendBytes_3 N x1 n y2_3 textLength_3 text_3 = some (y2_3o, textLength_3o, text_3o) → (∀ (H : Heap) (locs : List Loc) (ls : Array Slot), va_P D vwCl (w_X8_appendBytes kc a0 a1 a2 a3 a4 a5 a6 a7 a8 a9 a10 a11 textLength_3o errorPlace undoable newest text_3o) H → va_D A (w_X8_appendBytes kc a0 a1 a2 a3 a4 a5 a6 a7 a8 a9 a10 a11 textLength_3o errorPlace undoable newest text_3o) → va_S A s.heap H locs → lv_has ls 3 [(0, .ref a0), (1, .int x1), (2, .int y2_3o)] → W p l e ({ frames := 0, cells := 0, slots := 0, locals := 0 }) s m (([.ref a0, .int x1] : List Value).toArray) below meth c H locs 0 0 Q (F0 m 55 ls [])) → ∀ (H : Heap) (locs : List Loc) (ls : Array Slot), va_P D vwCl (w_X8_appendBytes kc a0 a1 a2 a3 a4 a5 a6 a7 a8 a9 a10 a11 textLength_3 errorPlace undoable newest text_3) H → va_D A (w_X8_appendBytes kc a0 a1 a2 a3 a4 a5 a6 a7 a8 a9 a10 a11 textLength_3 errorPlace undoable newest text_3) → va_S A s.heap H locs → lv_has ls 3 [(0, .ref a0), (1, .int x1), (2, .int y2_3)] → W p l e ({ frames := 0, cells := 0, slots := 0, locals := 0 }) s m (([.ref a0, .int x1] : List Value).toArray) below meth c H locs 0 0 Q (F0 m 3 ls []) := by
    intro n
    induction n with
    | zero => intro _ _ _ _ _ _ hf; rw [f_X8_appendBytes_3.eq_1] at hf; cases hf
    | succ n ih =>
      intro y2_3 textLength_3 text_3 y2_3o textLength_3o text_3o hf hk H locs ls hP hD hS hl
      rw [f_X8_appendBytes_3.eq_2] at hf
      refine lv_iload_n hx hb dX8_appendBytes_3 rfl (lv_at hl 2 rfl) ?_
      refine lv_if_lt (tgt := 55) hx hb dX8_appendBytes_4 (by decide) (fun hc => ?_) (fun hc => ?_)
      · have hf := o_t hc hf
        cases hf
        exact hk _ _ _ hP hD hS (lv_sub hl [0, 1, 2] rfl)
      · have hf := o_f hc hf
        refine lv_aload_n hx hb dX8_appendBytes_7 rfl (lv_at hl 0 rfl) ?_
        refine va_get (D := D) (ci := 8) (v := .int textLength_3) (C := RX8) (T := TX8) (N := 15) hx hb hts in_X8 hown hK hP 0 rfl rfl 9 (by decide) lk_77 (fun _ h9 => h9) rfl dX8_appendBytes_8 ?_
        refine lv_if_lt (tgt := 49) hx hb dX8_appendBytes_11 (by decide) (fun hc => ?_) (fun hc => ?_)
        · have hf := o_t hc hf
          refine lv_iinc (v := (y2_3 + (-8))) (lv' := [(2, .int (y2_3 + (-8))), (0, .ref a0), (1, .int x1)]) hx hb dX8_appendBytes_49 hl (k := 2) rfl (by rfl) (by decide) rfl (fun ls hl => ?_)
          refine lv_goto (tgt := 3) hx hb dX8_appendBytes_52 (by decide) ?_
          exact ih _ _ _ _ _ _ hf hk _ _ _ hP hD hS (lv_sub hl [1, 2, 0] rfl)
        · have hf := o_f hc hf
          refine lv_aload_n hx hb dX8_appendBytes_14 rfl (lv_at hl 0 rfl) ?_
          refine va_get (D := D) (ci := 8) (v := .int textLength_3) (C := RX8) (T := TX8) (N := 15) hx hb hts in_X8 hown hK hP 0 rfl rfl 9 (by decide) lk_77 (fun _ h9 => h9) rfl dX8_appendBytes_15 ?_
          refine lv_aload_n hx hb dX8_appendBytes_18 rfl (lv_at hl 0 rfl) ?_
          refine va_get (D := D) (ci := 8) (v := .ref a1) (C := RX8) (T := TX8) (N := 15) hx hb hts in_X8 hown hK hP 0 rfl rfl 0 (by decide) lk_9 (fun _ h9 => h9) rfl dX8_appendBytes_19 ?_
          refine va_alen hx hb hK hP 1 0 rfl rfl (v := 900) (by rfl) dX8_appendBytes_22 ?_
          refine lv_icmp_ge (tgt := 49) hx hb dX8_appendBytes_23 (by decide) (fun hc => ?_) (fun hc => ?_)
          · have hf := o_t hc hf
            refine lv_iinc (v := (y2_3 + (-8))) (lv' := [(2, .int (y2_3 + (-8))), (0, .ref a0), (1, .int x1)]) hx hb dX8_appendBytes_49 hl (k := 2) rfl (by rfl) (by decide) rfl (fun ls hl => ?_)
            refine lv_goto (tgt := 3) hx hb dX8_appendBytes_52 (by decide) ?_
            exact ih _ _ _ _ _ _ hf hk _ _ _ hP hD hS (lv_sub hl [1, 2, 0] rfl)
          · have hf := o_f hc hf
            refine lv_aload_n hx hb dX8_appendBytes_26 rfl (lv_at hl 0 rfl) ?_
            refine va_get (D := D) (ci := 8) (v := .ref a1) (C := RX8) (T := TX8) (N := 15) hx hb hts in_X8 hown hK hP 0 rfl rfl 0 (by decide) lk_9 (fun _ h9 => h9) rfl dX8_appendBytes_27 ?_
            refine lv_aload_n hx hb dX8_appendBytes_30 rfl (lv_at hl 0 rfl) ?_
            refine va_get (D := D) (ci := 8) (v := .int textLength_3) (C := RX8) (T := TX8) (N := 15) hx hb hts in_X8 hown hK hP 0 rfl rfl 9 (by decide) lk_77 (fun _ h9 => h9) rfl dX8_appendBytes_31 ?_
            refine lv_iload_n hx hb dX8_appendBytes_34 rfl (lv_at hl 1 rfl) ?_
            refine lv_iload_n hx hb dX8_appendBytes_35 rfl (lv_at hl 2 rfl) ?_
            refine lv_ishr hx hb dX8_appendBytes_36 ?_
            refine lv_i2b (v := (((x1 : Int32) >>> ((y2_3 : Int32) &&& 31)) : Int32).toInt8.toInt32) hx hb dX8_appendBytes_37 rfl ?_
            obtain ⟨hi, hf⟩ := gIx_some hf
            refine va_bast hx hb hK hP hD hS 1 0 rfl rfl hi dX8_appendBytes_38 (fun H locs hP hD hS => ?_)
            have hP : va_P D vwCl (w_X8_appendBytes kc a0 a1 a2 a3 a4 a5 a6 a7 a8 a9 a10 a11 textLength_3 errorPlace undoable newest (upd text_3 (textLength_3 : Int32).toNatClampNeg (vp_nar .byte ((((x1 : Int32) >>> ((y2_3 : Int32) &&& 31)) : Int32).toInt8.toInt32)))) H := hP
            have hD : va_D A (w_X8_appendBytes kc a0 a1 a2 a3 a4 a5 a6 a7 a8 a9 a10 a11 textLength_3 errorPlace undoable newest (upd text_3 (textLength_3 : Int32).toNatClampNeg (vp_nar .byte ((((x1 : Int32) >>> ((y2_3 : Int32) &&& 31)) : Int32).toInt8.toInt32)))) := hD
            refine lv_aload_n hx hb dX8_appendBytes_39 rfl (lv_at hl 0 rfl) ?_
            refine lv_dup hx hb dX8_appendBytes_40 rfl ?_
            refine va_get (D := D) (ci := 8) (v := .int textLength_3) (C := RX8) (T := TX8) (N := 15) hx hb hts in_X8 hown hK hP 0 rfl rfl 9 (by decide) lk_77 (fun _ h9 => h9) rfl dX8_appendBytes_41 ?_
            refine lv_iconst (v := 1) hx hb dX8_appendBytes_44 (by decide) ?_
            refine lv_iadd hx hb dX8_appendBytes_45 ?_
            refine va_put (D := D) (ci := 8) (v := .int (textLength_3 + 1)) (ty := .int) (C := RX8) (T := TX8) (N := 15) hx hb hts in_X8 tyX8 tyX8_ok nmX8 hown hK hP hD hS 0 rfl rfl 9 (by decide) lk_77 (fun _ h9 => h9) rfl (by decide +kernel) rfl rfl (Nat.le_of_ble_eq_true rfl) dX8_appendBytes_46 (fun H locs hP hD hS => ?_)
            have hP : va_P D vwCl (w_X8_appendBytes kc a0 a1 a2 a3 a4 a5 a6 a7 a8 a9 a10 a11 (textLength_3 + 1) errorPlace undoable newest (upd text_3 (textLength_3 : Int32).toNatClampNeg (vp_nar .byte ((((x1 : Int32) >>> ((y2_3 : Int32) &&& 31)) : Int32).toInt8.toInt32)))) H := hP
            have hD : va_D A (w_X8_appendBytes kc a0 a1 a2 a3 a4 a5 a6 a7 a8 a9 a10 a11 (textLength_3 + 1) errorPlace undoable newest (upd text_3 (textLength_3 : Int32).toNatClampNeg (vp_nar .byte ((((x1 : Int32) >>> ((y2_3 : Int32) &&& 31)) : Int32).toInt8.toInt32)))) := hD
            refine lv_iinc (v := (y2_3 + (-8))) (lv' := [(2, .int (y2_3 + (-8))), (0, .ref a0), (1, .int x1)]) hx hb dX8_appendBytes_49 hl (k := 2) rfl (by rfl) (by decide) rfl (fun ls hl => ?_)
            refine lv_goto (tgt := 3) hx hb dX8_appendBytes_52 (by decide) ?_
            exact ih _ _ _ _ _ _ hf hk _ _ _ hP hD hS (lv_sub hl [1, 2, 0] rfl)
  obtain ⟨y2_3o, textLength_3o, text_3o, hc, hf⟩ := ob3_some hf
  refine L3 N _ _ _ _ _ _ hc (fun H locs ls hP hD hS hl => ?_) _ _ _ hP hD hS (lv_sub hl [1, 2, 0] rfl)
  cases hf
  exact kR _ _ _ _ hP hD hS dX8_appendBytes_55
abbrev w_X8_append (kc : Nat → ClassId) (a0 a1 a2 a3 a4 a5 a6 a7 a8 a9 a10 a11 : Nat) (textLength : Int32) (errorPlace : Int32) (undoable : Int32) (newest : Int32) (text : Nat → Int32) : va_W := [(a0, .inr (8, [.ref a1, .ref a2, .ref a3, .ref a4, .ref a5, .ref a6, .ref a7, .ref a8, .ref a9, .int textLength, .int errorPlace, .int undoable, .int newest, .ref a10, .ref a11])), (a1, .inl (kc 0, 900, .inl text))]
set_option maxHeartbeats 4000000 in
set_option maxRecDepth 100000 in
theorem c_X8_append (l : Launch) (D : va_G) (kc : Nat → ClassId) (N : Nat) (a0 a1 a2 a3 a4 a5 a6 a7 a8 a9 a10 a11 : Nat) (textLength : Int32) (errorPlace : Int32) (undoable : Int32) (newest : Int32) (text : Nat → Int32) (x1 : Int32) (x2 : Int32) (x3 : Int32) (x4 : Int32) (x5 : Int32) (r_ : Int32) (textLength' : Int32) (text' : Nat → Int32) (hf : f_X8_append N textLength text x1 x2 x3 x4 x5 = some (r_, textLength', text')) : MI l yX8_append wsX8_append ({ frames := 1, cells := 0, slots := 0, locals := 22 }) D kc [.ref a0, .int x1, .int x2, .int x3, .int x4, .int x5] (w_X8_append kc a0 a1 a2 a3 a4 a5 a6 a7 a8 a9 a10 a11 textLength errorPlace undoable newest text) (w_X8_append kc a0 a1 a2 a3 a4 a5 a6 a7 a8 a9 a10 a11 textLength' errorPlace undoable newest text') r_ := by
  refine gM_I (cc := cX8_append) (maxL := 6) (by decide) rfl (Nat.le_of_ble_eq_true rfl) ?_
  intro p e s m below meth c A ls Q hx hb hml hown hts hN hK hP hD hA hl kR
  have hS : va_S A s.heap s.heap [] := va_S.rf
  have hl : lv_has ls 6 [(0, .ref a0), (1, .int x1), (2, .int x2), (3, .int x3), (4, .int x4), (5, .int x5)] := hl
  have in_X8 : ∀ w ∈ u_ws RX8 TX8 15, w ∈ wsX8_append := by decide +kernel
  have lk_77 := hts (.fieldLink RX8 77 "BalloonMail" "textLength" "I") (by decide +kernel)
  unfold f_X8_append at hf
  refine lv_aload_n hx hb dX8_append_0 rfl (lv_at hl 0 rfl) ?_
  refine va_get (D := D) (ci := 8) (v := .int textLength) (C := RX8) (T := TX8) (N := 15) hx hb hts in_X8 hown hK hP 0 rfl rfl 9 (by decide) lk_77 (fun _ h9 => h9) rfl dX8_append_1 ?_
  refine lv_sipush (v := 880) hx hb dX8_append_4 (by decide) ?_
  refine lv_icmp_le (tgt := 12) hx hb dX8_append_7 (by decide) (fun hc => ?_) (fun hc => ?_)
  · have hf := o_t hc hf
    refine lv_aload_n hx hb dX8_append_12 rfl (lv_at hl 0 rfl) ?_
    refine lv_iload_n hx hb dX8_append_13 rfl (lv_at hl 1 rfl) ?_
    obtain ⟨textLength_1, text_2, hc, hf⟩ := ob2_some hf
    refine g_VV (As := [.int x1]) (rest := []) (ws' := (w_X8_append kc a0 a1 a2 a3 a4 a5 a6 a7 a8 a9 a10 a11 textLength_1 errorPlace undoable newest text_2)) ⟨hx, hb, hml, hown, hts⟩ hN hK hP hD hS hA (c_X8_appendBytes l D kc N a0 a1 a2 a3 a4 a5 a6 a7 a8 a9 a10 a11 textLength errorPlace undoable newest text x1 textLength_1 text_2 hc) (cwV 1 hts gX8_append_X8_appendBytes rfl rfl rfl (by decide +kernel) ⟨Nat.le_of_ble_eq_true rfl, Nat.le_of_ble_eq_true rfl⟩) [0, 1] [] [0, 1] (by exact ⟨rfl, rfl, by decide, rfl⟩) 0 8 rfl rfl rfl rfl hl.1 rfl (Nat.le_of_ble_eq_true rfl) dX8_append_14 ⟨Nat.le_refl _, Nat.le_refl _⟩ (fun H locs hP hD hS => ?_)
    refine lv_aload_n hx hb dX8_append_17 rfl (lv_at hl 0 rfl) ?_
    refine lv_iload_n hx hb dX8_append_18 rfl (lv_at hl 2 rfl) ?_
    obtain ⟨textLength_3, text_4, hc, hf⟩ := ob2_some hf
    refine g_VV (As := [.int x2]) (rest := []) (ws' := (w_X8_append kc a0 a1 a2 a3 a4 a5 a6 a7 a8 a9 a10 a11 textLength_3 errorPlace undoable newest text_4)) ⟨hx, hb, hml, hown, hts⟩ hN hK hP hD hS hA (c_X8_appendBytes l D kc N a0 a1 a2 a3 a4 a5 a6 a7 a8 a9 a10 a11 textLength_1 errorPlace undoable newest text_2 x2 textLength_3 text_4 hc) (cwV 1 hts gX8_append_X8_appendBytes rfl rfl rfl (by decide +kernel) ⟨Nat.le_of_ble_eq_true rfl, Nat.le_of_ble_eq_true rfl⟩) [0, 1] [] [0, 1] (by exact ⟨rfl, rfl, by decide, rfl⟩) 0 8 rfl rfl rfl rfl hl.1 rfl (Nat.le_of_ble_eq_true rfl) dX8_append_19 ⟨Nat.le_refl _, Nat.le_refl _⟩ (fun H locs hP hD hS => ?_)
    refine lv_aload_n hx hb dX8_append_22 rfl (lv_at hl 0 rfl) ?_
    refine lv_iload_n hx hb dX8_append_23 rfl (lv_at hl 3 rfl) ?_
    obtain ⟨textLength_5, text_6, hc, hf⟩ := ob2_some hf
    refine g_VV (As := [.int x3]) (rest := []) (ws' := (w_X8_append kc a0 a1 a2 a3 a4 a5 a6 a7 a8 a9 a10 a11 textLength_5 errorPlace undoable newest text_6)) ⟨hx, hb, hml, hown, hts⟩ hN hK hP hD hS hA (c_X8_appendBytes l D kc N a0 a1 a2 a3 a4 a5 a6 a7 a8 a9 a10 a11 textLength_3 errorPlace undoable newest text_4 x3 textLength_5 text_6 hc) (cwV 1 hts gX8_append_X8_appendBytes rfl rfl rfl (by decide +kernel) ⟨Nat.le_of_ble_eq_true rfl, Nat.le_of_ble_eq_true rfl⟩) [0, 1] [] [0, 1] (by exact ⟨rfl, rfl, by decide, rfl⟩) 0 8 rfl rfl rfl rfl hl.1 rfl (Nat.le_of_ble_eq_true rfl) dX8_append_24 ⟨Nat.le_refl _, Nat.le_refl _⟩ (fun H locs hP hD hS => ?_)
    refine lv_aload_n hx hb dX8_append_27 rfl (lv_at hl 0 rfl) ?_
    refine lv_iload hx hb dX8_append_28 (lv_at hl 4 rfl) ?_
    obtain ⟨textLength_7, text_8, hc, hf⟩ := ob2_some hf
    refine g_VV (As := [.int x4]) (rest := []) (ws' := (w_X8_append kc a0 a1 a2 a3 a4 a5 a6 a7 a8 a9 a10 a11 textLength_7 errorPlace undoable newest text_8)) ⟨hx, hb, hml, hown, hts⟩ hN hK hP hD hS hA (c_X8_appendBytes l D kc N a0 a1 a2 a3 a4 a5 a6 a7 a8 a9 a10 a11 textLength_5 errorPlace undoable newest text_6 x4 textLength_7 text_8 hc) (cwV 1 hts gX8_append_X8_appendBytes rfl rfl rfl (by decide +kernel) ⟨Nat.le_of_ble_eq_true rfl, Nat.le_of_ble_eq_true rfl⟩) [0, 1] [] [0, 1] (by exact ⟨rfl, rfl, by decide, rfl⟩) 0 8 rfl rfl rfl rfl hl.1 rfl (Nat.le_of_ble_eq_true rfl) dX8_append_30 ⟨Nat.le_refl _, Nat.le_refl _⟩ (fun H locs hP hD hS => ?_)
    refine lv_aload_n hx hb dX8_append_33 rfl (lv_at hl 0 rfl) ?_
    refine lv_iload hx hb dX8_append_34 (lv_at hl 5 rfl) ?_
    obtain ⟨textLength_9, text_10, hc, hf⟩ := ob2_some hf
    refine g_VV (As := [.int x5]) (rest := []) (ws' := (w_X8_append kc a0 a1 a2 a3 a4 a5 a6 a7 a8 a9 a10 a11 textLength_9 errorPlace undoable newest text_10)) ⟨hx, hb, hml, hown, hts⟩ hN hK hP hD hS hA (c_X8_appendBytes l D kc N a0 a1 a2 a3 a4 a5 a6 a7 a8 a9 a10 a11 textLength_7 errorPlace undoable newest text_8 x5 textLength_9 text_10 hc) (cwV 1 hts gX8_append_X8_appendBytes rfl rfl rfl (by decide +kernel) ⟨Nat.le_of_ble_eq_true rfl, Nat.le_of_ble_eq_true rfl⟩) [0, 1] [] [0, 1] (by exact ⟨rfl, rfl, by decide, rfl⟩) 0 8 rfl rfl rfl rfl hl.1 rfl (Nat.le_of_ble_eq_true rfl) dX8_append_36 ⟨Nat.le_refl _, Nat.le_refl _⟩ (fun H locs hP hD hS => ?_)
    refine lv_aload_n hx hb dX8_append_39 rfl (lv_at hl 0 rfl) ?_
    refine va_get (D := D) (ci := 8) (v := .int textLength_9) (C := RX8) (T := TX8) (N := 15) hx hb hts in_X8 hown hK hP 0 rfl rfl 9 (by decide) lk_77 (fun _ h9 => h9) rfl dX8_append_40 ?_
    cases hf
    exact kR _ _ _ _ hP hD hS dX8_append_43
  · have hf := o_f hc hf
    refine lv_iconst (v := (-1)) hx hb dX8_append_10 (by decide) ?_
    cases hf
    exact kR _ _ _ _ hP hD hS dX8_append_11
abbrev w_X8_errorPosition (kc : Nat → ClassId) (a0 a1 a2 a3 a4 a5 a6 a7 a8 a9 a10 a11 : Nat) (textLength : Int32) (errorPlace : Int32) (undoable : Int32) (newest : Int32) : va_W := [(a0, .inr (8, [.ref a1, .ref a2, .ref a3, .ref a4, .ref a5, .ref a6, .ref a7, .ref a8, .ref a9, .int textLength, .int errorPlace, .int undoable, .int newest, .ref a10, .ref a11]))]
set_option maxHeartbeats 4000000 in
set_option maxRecDepth 100000 in
theorem c_X8_errorPosition (l : Launch) (D : va_G) (kc : Nat → ClassId) (N : Nat) (a0 a1 a2 a3 a4 a5 a6 a7 a8 a9 a10 a11 : Nat) (textLength : Int32) (errorPlace : Int32) (undoable : Int32) (newest : Int32) (r_ : Int32) (hf : f_X8_errorPosition N errorPlace = some r_) : MI l yX8_errorPosition wsX8_errorPosition ({ frames := 0, cells := 0, slots := 0, locals := 0 }) D kc [.ref a0] (w_X8_errorPosition kc a0 a1 a2 a3 a4 a5 a6 a7 a8 a9 a10 a11 textLength errorPlace undoable newest) (w_X8_errorPosition kc a0 a1 a2 a3 a4 a5 a6 a7 a8 a9 a10 a11 textLength errorPlace undoable newest) r_ := by
  refine gM_I (cc := cX8_errorPosition) (maxL := 1) (by decide) rfl (Nat.le_of_ble_eq_true rfl) ?_
  intro p e s m below meth c A ls Q hx hb hml hown hts hN hK hP hD hA hl kR
  have hS : va_S A s.heap s.heap [] := va_S.rf
  have hl : lv_has ls 1 [(0, .ref a0)] := hl
  have in_X8 : ∀ w ∈ u_ws RX8 TX8 15, w ∈ wsX8_errorPosition := by decide +kernel
  have lk_59 := hts (.fieldLink RX8 59 "BalloonMail" "errorPlace" "I") (by decide +kernel)
  unfold f_X8_errorPosition at hf
  refine lv_aload_n hx hb dX8_errorPosition_0 rfl (lv_at hl 0 rfl) ?_
  refine va_get (D := D) (ci := 8) (v := .int errorPlace) (C := RX8) (T := TX8) (N := 15) hx hb hts in_X8 hown hK hP 0 rfl rfl 10 (by decide) lk_59 (fun _ h9 => h9) rfl dX8_errorPosition_1 ?_
  cases hf
  exact kR _ _ _ _ hP hD hS dX8_errorPosition_4
abbrev w_X8_regionCount (kc : Nat → ClassId) (a0 a1 a2 a3 a4 a5 a6 a7 a8 a9 a10 a11 a12 a13 a14 a15 a16 a17 a18 a19 : Nat) (textLength : Int32) (errorPlace : Int32) (undoable : Int32) (newest : Int32) (regions : Int32) (balloons : Int32) (letters : Int32) (loft : Int32) (start : Int32) (seed : Int32) : va_W := [(a0, .inr (8, [.ref a1, .ref a2, .ref a3, .ref a4, .ref a5, .ref a6, .ref a7, .ref a8, .ref a9, .int textLength, .int errorPlace, .int undoable, .int newest, .ref a10, .ref a11])), (a10, .inr (5, [.ref a12, .ref a13, .ref a14, .ref a15, .ref a16, .ref a17, .ref a18, .ref a19, .int regions, .int balloons, .int letters, .int loft, .int start, .int seed]))]
set_option maxHeartbeats 4000000 in
set_option maxRecDepth 100000 in
theorem c_X8_regionCount (l : Launch) (D : va_G) (kc : Nat → ClassId) (N : Nat) (a0 a1 a2 a3 a4 a5 a6 a7 a8 a9 a10 a11 a12 a13 a14 a15 a16 a17 a18 a19 : Nat) (textLength : Int32) (errorPlace : Int32) (undoable : Int32) (newest : Int32) (regions : Int32) (balloons : Int32) (letters : Int32) (loft : Int32) (start : Int32) (seed : Int32) (r_ : Int32) (hf : f_X8_regionCount N regions = some r_) : MI l yX8_regionCount wsX8_regionCount ({ frames := 0, cells := 0, slots := 0, locals := 0 }) D kc [.ref a0] (w_X8_regionCount kc a0 a1 a2 a3 a4 a5 a6 a7 a8 a9 a10 a11 a12 a13 a14 a15 a16 a17 a18 a19 textLength errorPlace undoable newest regions balloons letters loft start seed) (w_X8_regionCount kc a0 a1 a2 a3 a4 a5 a6 a7 a8 a9 a10 a11 a12 a13 a14 a15 a16 a17 a18 a19 textLength errorPlace undoable newest regions balloons letters loft start seed) r_ := by
  refine gM_I (cc := cX8_regionCount) (maxL := 1) (by decide) rfl (Nat.le_of_ble_eq_true rfl) ?_
  intro p e s m below meth c A ls Q hx hb hml hown hts hN hK hP hD hA hl kR
  have hS : va_S A s.heap s.heap [] := va_S.rf
  have hl : lv_has ls 1 [(0, .ref a0)] := hl
  have in_X8 : ∀ w ∈ u_ws RX8 TX8 15, w ∈ wsX8_regionCount := by decide +kernel
  have lk_66 := hts (.fieldLink RX8 66 "BalloonMail" "siege" "LBalloonMail$Siege;") (by decide +kernel)
  have in_X5 : ∀ w ∈ u_ws RX5 TX5 14, w ∈ wsX8_regionCount := by decide +kernel
  have lk_100 := hts (.fieldLink RX8 100 "BalloonMail$Siege" "regions" "I") (by decide +kernel)
  unfold f_X8_regionCount at hf
  refine lv_aload_n hx hb dX8_regionCount_0 rfl (lv_at hl 0 rfl) ?_
  refine va_get (D := D) (ci := 8) (v := .ref a10) (C := RX8) (T := TX8) (N := 15) hx hb hts in_X8 hown hK hP 0 rfl rfl 13 (by decide) lk_66 (fun _ h9 => h9) rfl dX8_regionCount_1 ?_
  refine va_get (D := D) (ci := 5) (v := .int regions) (C := RX5) (T := TX5) (N := 14) hx hb hts in_X5 hown hK hP 1 rfl rfl 8 (by decide) lk_100 (fun _ h9 => h9) rfl dX8_regionCount_4 ?_
  cases hf
  exact kR _ _ _ _ hP hD hS dX8_regionCount_7
abbrev w_X8_windCount (kc : Nat → ClassId) (a0 a1 a2 a3 a4 a5 a6 a7 a8 a9 a10 a11 a12 a13 a14 a15 a16 a17 a18 a19 a20 a21 a22 a23 a24 a25 : Nat) (textLength : Int32) (errorPlace : Int32) (undoable : Int32) (newest : Int32) (regions : Int32) (balloons : Int32) (letters : Int32) (loft : Int32) (start : Int32) (seed : Int32) (count : Int32) (turnCount : Int32) : va_W := [(a0, .inr (8, [.ref a1, .ref a2, .ref a3, .ref a4, .ref a5, .ref a6, .ref a7, .ref a8, .ref a9, .int textLength, .int errorPlace, .int undoable, .int newest, .ref a10, .ref a11])), (a10, .inr (5, [.ref a12, .ref a13, .ref a14, .ref a15, .ref a16, .ref a17, .ref a18, .ref a19, .int regions, .int balloons, .int letters, .int loft, .int start, .int seed])), (a12, .inr (7, [.int count, .int turnCount, .ref a20, .ref a21, .ref a22, .ref a23, .ref a24, .ref a25]))]
set_option maxHeartbeats 4000000 in
set_option maxRecDepth 100000 in
theorem c_X8_windCount (l : Launch) (D : va_G) (kc : Nat → ClassId) (N : Nat) (a0 a1 a2 a3 a4 a5 a6 a7 a8 a9 a10 a11 a12 a13 a14 a15 a16 a17 a18 a19 a20 a21 a22 a23 a24 a25 : Nat) (textLength : Int32) (errorPlace : Int32) (undoable : Int32) (newest : Int32) (regions : Int32) (balloons : Int32) (letters : Int32) (loft : Int32) (start : Int32) (seed : Int32) (count : Int32) (turnCount : Int32) (r_ : Int32) (hf : f_X8_windCount N count = some r_) : MI l yX8_windCount wsX8_windCount ({ frames := 0, cells := 0, slots := 0, locals := 0 }) D kc [.ref a0] (w_X8_windCount kc a0 a1 a2 a3 a4 a5 a6 a7 a8 a9 a10 a11 a12 a13 a14 a15 a16 a17 a18 a19 a20 a21 a22 a23 a24 a25 textLength errorPlace undoable newest regions balloons letters loft start seed count turnCount) (w_X8_windCount kc a0 a1 a2 a3 a4 a5 a6 a7 a8 a9 a10 a11 a12 a13 a14 a15 a16 a17 a18 a19 a20 a21 a22 a23 a24 a25 textLength errorPlace undoable newest regions balloons letters loft start seed count turnCount) r_ := by
  refine gM_I (cc := cX8_windCount) (maxL := 1) (by decide) rfl (Nat.le_of_ble_eq_true rfl) ?_
  intro p e s m below meth c A ls Q hx hb hml hown hts hN hK hP hD hA hl kR
  have hS : va_S A s.heap s.heap [] := va_S.rf
  have hl : lv_has ls 1 [(0, .ref a0)] := hl
  have in_X8 : ∀ w ∈ u_ws RX8 TX8 15, w ∈ wsX8_windCount := by decide +kernel
  have lk_66 := hts (.fieldLink RX8 66 "BalloonMail" "siege" "LBalloonMail$Siege;") (by decide +kernel)
  have in_X5 : ∀ w ∈ u_ws RX5 TX5 14, w ∈ wsX8_windCount := by decide +kernel
  have lk_103 := hts (.fieldLink RX8 103 "BalloonMail$Siege" "winds" "LBalloonMail$Winds;") (by decide +kernel)
  have in_X7 : ∀ w ∈ u_ws RX7 TX7 8, w ∈ wsX8_windCount := by decide +kernel
  have lk_107 := hts (.fieldLink RX8 107 "BalloonMail$Winds" "count" "I") (by decide +kernel)
  unfold f_X8_windCount at hf
  refine lv_aload_n hx hb dX8_windCount_0 rfl (lv_at hl 0 rfl) ?_
  refine va_get (D := D) (ci := 8) (v := .ref a10) (C := RX8) (T := TX8) (N := 15) hx hb hts in_X8 hown hK hP 0 rfl rfl 13 (by decide) lk_66 (fun _ h9 => h9) rfl dX8_windCount_1 ?_
  refine va_get (D := D) (ci := 5) (v := .ref a12) (C := RX5) (T := TX5) (N := 14) hx hb hts in_X5 hown hK hP 1 rfl rfl 0 (by decide) lk_103 (fun _ h9 => h9) rfl dX8_windCount_4 ?_
  refine va_get (D := D) (ci := 7) (v := .int count) (C := RX7) (T := TX7) (N := 8) hx hb hts in_X7 hown hK hP 2 rfl rfl 0 (by decide) lk_107 (fun _ h9 => h9) rfl dX8_windCount_7 ?_
  cases hf
  exact kR _ _ _ _ hP hD hS dX8_windCount_10
abbrev w_X8_balloonCount (kc : Nat → ClassId) (a0 a1 a2 a3 a4 a5 a6 a7 a8 a9 a10 a11 a12 a13 a14 a15 a16 a17 a18 a19 : Nat) (textLength : Int32) (errorPlace : Int32) (undoable : Int32) (newest : Int32) (regions : Int32) (balloons : Int32) (letters : Int32) (loft : Int32) (start : Int32) (seed : Int32) : va_W := [(a0, .inr (8, [.ref a1, .ref a2, .ref a3, .ref a4, .ref a5, .ref a6, .ref a7, .ref a8, .ref a9, .int textLength, .int errorPlace, .int undoable, .int newest, .ref a10, .ref a11])), (a10, .inr (5, [.ref a12, .ref a13, .ref a14, .ref a15, .ref a16, .ref a17, .ref a18, .ref a19, .int regions, .int balloons, .int letters, .int loft, .int start, .int seed]))]
set_option maxHeartbeats 4000000 in
set_option maxRecDepth 100000 in
theorem c_X8_balloonCount (l : Launch) (D : va_G) (kc : Nat → ClassId) (N : Nat) (a0 a1 a2 a3 a4 a5 a6 a7 a8 a9 a10 a11 a12 a13 a14 a15 a16 a17 a18 a19 : Nat) (textLength : Int32) (errorPlace : Int32) (undoable : Int32) (newest : Int32) (regions : Int32) (balloons : Int32) (letters : Int32) (loft : Int32) (start : Int32) (seed : Int32) (r_ : Int32) (hf : f_X8_balloonCount N balloons = some r_) : MI l yX8_balloonCount wsX8_balloonCount ({ frames := 0, cells := 0, slots := 0, locals := 0 }) D kc [.ref a0] (w_X8_balloonCount kc a0 a1 a2 a3 a4 a5 a6 a7 a8 a9 a10 a11 a12 a13 a14 a15 a16 a17 a18 a19 textLength errorPlace undoable newest regions balloons letters loft start seed) (w_X8_balloonCount kc a0 a1 a2 a3 a4 a5 a6 a7 a8 a9 a10 a11 a12 a13 a14 a15 a16 a17 a18 a19 textLength errorPlace undoable newest regions balloons letters loft start seed) r_ := by
  refine gM_I (cc := cX8_balloonCount) (maxL := 1) (by decide) rfl (Nat.le_of_ble_eq_true rfl) ?_
  intro p e s m below meth c A ls Q hx hb hml hown hts hN hK hP hD hA hl kR
  have hS : va_S A s.heap s.heap [] := va_S.rf
  have hl : lv_has ls 1 [(0, .ref a0)] := hl
  have in_X8 : ∀ w ∈ u_ws RX8 TX8 15, w ∈ wsX8_balloonCount := by decide +kernel
  have lk_66 := hts (.fieldLink RX8 66 "BalloonMail" "siege" "LBalloonMail$Siege;") (by decide +kernel)
  have in_X5 : ∀ w ∈ u_ws RX5 TX5 14, w ∈ wsX8_balloonCount := by decide +kernel
  have lk_112 := hts (.fieldLink RX8 112 "BalloonMail$Siege" "balloons" "I") (by decide +kernel)
  unfold f_X8_balloonCount at hf
  refine lv_aload_n hx hb dX8_balloonCount_0 rfl (lv_at hl 0 rfl) ?_
  refine va_get (D := D) (ci := 8) (v := .ref a10) (C := RX8) (T := TX8) (N := 15) hx hb hts in_X8 hown hK hP 0 rfl rfl 13 (by decide) lk_66 (fun _ h9 => h9) rfl dX8_balloonCount_1 ?_
  refine va_get (D := D) (ci := 5) (v := .int balloons) (C := RX5) (T := TX5) (N := 14) hx hb hts in_X5 hown hK hP 1 rfl rfl 9 (by decide) lk_112 (fun _ h9 => h9) rfl dX8_balloonCount_4 ?_
  cases hf
  exact kR _ _ _ _ hP hD hS dX8_balloonCount_7
abbrev w_X8_letterCount (kc : Nat → ClassId) (a0 a1 a2 a3 a4 a5 a6 a7 a8 a9 a10 a11 a12 a13 a14 a15 a16 a17 a18 a19 : Nat) (textLength : Int32) (errorPlace : Int32) (undoable : Int32) (newest : Int32) (regions : Int32) (balloons : Int32) (letters : Int32) (loft : Int32) (start : Int32) (seed : Int32) : va_W := [(a0, .inr (8, [.ref a1, .ref a2, .ref a3, .ref a4, .ref a5, .ref a6, .ref a7, .ref a8, .ref a9, .int textLength, .int errorPlace, .int undoable, .int newest, .ref a10, .ref a11])), (a10, .inr (5, [.ref a12, .ref a13, .ref a14, .ref a15, .ref a16, .ref a17, .ref a18, .ref a19, .int regions, .int balloons, .int letters, .int loft, .int start, .int seed]))]
set_option maxHeartbeats 4000000 in
set_option maxRecDepth 100000 in
theorem c_X8_letterCount (l : Launch) (D : va_G) (kc : Nat → ClassId) (N : Nat) (a0 a1 a2 a3 a4 a5 a6 a7 a8 a9 a10 a11 a12 a13 a14 a15 a16 a17 a18 a19 : Nat) (textLength : Int32) (errorPlace : Int32) (undoable : Int32) (newest : Int32) (regions : Int32) (balloons : Int32) (letters : Int32) (loft : Int32) (start : Int32) (seed : Int32) (r_ : Int32) (hf : f_X8_letterCount N letters = some r_) : MI l yX8_letterCount wsX8_letterCount ({ frames := 0, cells := 0, slots := 0, locals := 0 }) D kc [.ref a0] (w_X8_letterCount kc a0 a1 a2 a3 a4 a5 a6 a7 a8 a9 a10 a11 a12 a13 a14 a15 a16 a17 a18 a19 textLength errorPlace undoable newest regions balloons letters loft start seed) (w_X8_letterCount kc a0 a1 a2 a3 a4 a5 a6 a7 a8 a9 a10 a11 a12 a13 a14 a15 a16 a17 a18 a19 textLength errorPlace undoable newest regions balloons letters loft start seed) r_ := by
  refine gM_I (cc := cX8_letterCount) (maxL := 1) (by decide) rfl (Nat.le_of_ble_eq_true rfl) ?_
  intro p e s m below meth c A ls Q hx hb hml hown hts hN hK hP hD hA hl kR
  have hS : va_S A s.heap s.heap [] := va_S.rf
  have hl : lv_has ls 1 [(0, .ref a0)] := hl
  have in_X8 : ∀ w ∈ u_ws RX8 TX8 15, w ∈ wsX8_letterCount := by decide +kernel
  have lk_66 := hts (.fieldLink RX8 66 "BalloonMail" "siege" "LBalloonMail$Siege;") (by decide +kernel)
  have in_X5 : ∀ w ∈ u_ws RX5 TX5 14, w ∈ wsX8_letterCount := by decide +kernel
  have lk_115 := hts (.fieldLink RX8 115 "BalloonMail$Siege" "letters" "I") (by decide +kernel)
  unfold f_X8_letterCount at hf
  refine lv_aload_n hx hb dX8_letterCount_0 rfl (lv_at hl 0 rfl) ?_
  refine va_get (D := D) (ci := 8) (v := .ref a10) (C := RX8) (T := TX8) (N := 15) hx hb hts in_X8 hown hK hP 0 rfl rfl 13 (by decide) lk_66 (fun _ h9 => h9) rfl dX8_letterCount_1 ?_
  refine va_get (D := D) (ci := 5) (v := .int letters) (C := RX5) (T := TX5) (N := 14) hx hb hts in_X5 hown hK hP 1 rfl rfl 10 (by decide) lk_115 (fun _ h9 => h9) rfl dX8_letterCount_4 ?_
  cases hf
  exact kR _ _ _ _ hP hD hS dX8_letterCount_7
abbrev w_X8_capacity (kc : Nat → ClassId) (a0 a1 a2 a3 a4 a5 a6 a7 a8 a9 a10 a11 a12 a13 a14 a15 a16 a17 a18 a19 : Nat) (textLength : Int32) (errorPlace : Int32) (undoable : Int32) (newest : Int32) (regions : Int32) (balloons : Int32) (letters : Int32) (loft : Int32) (start : Int32) (seed : Int32) (capacity : Nat → Int32) : va_W := [(a0, .inr (8, [.ref a1, .ref a2, .ref a3, .ref a4, .ref a5, .ref a6, .ref a7, .ref a8, .ref a9, .int textLength, .int errorPlace, .int undoable, .int newest, .ref a10, .ref a11])), (a10, .inr (5, [.ref a12, .ref a13, .ref a14, .ref a15, .ref a16, .ref a17, .ref a18, .ref a19, .int regions, .int balloons, .int letters, .int loft, .int start, .int seed])), (a16, .inl (kc 1, 10, .inl capacity))]
set_option maxHeartbeats 4000000 in
set_option maxRecDepth 100000 in
theorem c_X8_capacity (l : Launch) (D : va_G) (kc : Nat → ClassId) (N : Nat) (a0 a1 a2 a3 a4 a5 a6 a7 a8 a9 a10 a11 a12 a13 a14 a15 a16 a17 a18 a19 : Nat) (textLength : Int32) (errorPlace : Int32) (undoable : Int32) (newest : Int32) (regions : Int32) (balloons : Int32) (letters : Int32) (loft : Int32) (start : Int32) (seed : Int32) (capacity : Nat → Int32) (x1 : Int32) (r_ : Int32) (hf : f_X8_capacity N balloons capacity x1 = some r_) : MI l yX8_capacity wsX8_capacity ({ frames := 1, cells := 0, slots := 0, locals := 21 }) D kc [.ref a0, .int x1] (w_X8_capacity kc a0 a1 a2 a3 a4 a5 a6 a7 a8 a9 a10 a11 a12 a13 a14 a15 a16 a17 a18 a19 textLength errorPlace undoable newest regions balloons letters loft start seed capacity) (w_X8_capacity kc a0 a1 a2 a3 a4 a5 a6 a7 a8 a9 a10 a11 a12 a13 a14 a15 a16 a17 a18 a19 textLength errorPlace undoable newest regions balloons letters loft start seed capacity) r_ := by
  refine gM_I (cc := cX8_capacity) (maxL := 2) (by decide) rfl (Nat.le_of_ble_eq_true rfl) ?_
  intro p e s m below meth c A ls Q hx hb hml hown hts hN hK hP hD hA hl kR
  have hS : va_S A s.heap s.heap [] := va_S.rf
  have hl : lv_has ls 2 [(0, .ref a0), (1, .int x1)] := hl
  have in_X8 : ∀ w ∈ u_ws RX8 TX8 15, w ∈ wsX8_capacity := by decide +kernel
  have lk_66 := hts (.fieldLink RX8 66 "BalloonMail" "siege" "LBalloonMail$Siege;") (by decide +kernel)
  have in_X5 : ∀ w ∈ u_ws RX5 TX5 14, w ∈ wsX8_capacity := by decide +kernel
  have lk_122 := hts (.fieldLink RX8 122 "BalloonMail$Siege" "capacity" "[I") (by decide +kernel)
  unfold f_X8_capacity at hf
  refine lv_aload_n hx hb dX8_capacity_0 rfl (lv_at hl 0 rfl) ?_
  refine va_get (D := D) (ci := 8) (v := .ref a10) (C := RX8) (T := TX8) (N := 15) hx hb hts in_X8 hown hK hP 0 rfl rfl 13 (by decide) lk_66 (fun _ h9 => h9) rfl dX8_capacity_1 ?_
  refine lv_iload_n hx hb dX8_capacity_4 rfl (lv_at hl 1 rfl) ?_
  obtain ⟨r_1, hc, hf⟩ := ob1_some hf
  refine g_VZ (As := [.int x1]) (rest := []) (ws' := (w_X8_capacity kc a0 a1 a2 a3 a4 a5 a6 a7 a8 a9 a10 a11 a12 a13 a14 a15 a16 a17 a18 a19 textLength errorPlace undoable newest regions balloons letters loft start seed capacity)) ⟨hx, hb, hml, hown, hts⟩ hN hK hP hD hS hA (c_X5_hasBalloon l D kc N a10 a12 a13 a14 a15 a16 a17 a18 a19 regions balloons letters loft start seed x1 r_1 hc) (cwV 1 hts gX8_capacity_X5_hasBalloon rfl rfl rfl (by decide +kernel) ⟨Nat.le_of_ble_eq_true rfl, Nat.le_of_ble_eq_true rfl⟩) [1] [0, 2] [0, 2, 1] (by exact ⟨rfl, rfl, by decide, rfl⟩) 1 5 rfl rfl rfl rfl hl.1 rfl (Nat.le_of_ble_eq_true rfl) dX8_capacity_5 ⟨Nat.le_refl _, Nat.le_refl _⟩ (fun H locs hz hP hD hS => ?_)
  have hz_2 := hz
  refine lv_if_eq (tgt := 23) hx hb dX8_capacity_8 (by decide) (fun hc => ?_) (fun hc => ?_)
  · have hf := o_t hc hf
    refine lv_iconst (v := (-1)) hx hb dX8_capacity_23 (by decide) ?_
    cases hf
    exact kR _ _ _ _ hP hD hS dX8_capacity_24
  · have hf := o_f hc hf
    refine lv_aload_n hx hb dX8_capacity_11 rfl (lv_at hl 0 rfl) ?_
    refine va_get (D := D) (ci := 8) (v := .ref a10) (C := RX8) (T := TX8) (N := 15) hx hb hts in_X8 hown hK hP 0 rfl rfl 13 (by decide) lk_66 (fun _ h9 => h9) rfl dX8_capacity_12 ?_
    refine va_get (D := D) (ci := 5) (v := .ref a16) (C := RX5) (T := TX5) (N := 14) hx hb hts in_X5 hown hK hP 1 rfl rfl 4 (by decide) lk_122 (fun _ h9 => h9) rfl dX8_capacity_15 ?_
    refine lv_iload_n hx hb dX8_capacity_18 rfl (lv_at hl 1 rfl) ?_
    obtain ⟨hi, hf⟩ := gIx_some hf
    refine va_iald hx hb hK hP 2 1 rfl rfl hi dX8_capacity_19 ?_
    refine lv_goto (tgt := 24) hx hb dX8_capacity_20 (by decide) ?_
    cases hf
    exact kR _ _ _ _ hP hD hS dX8_capacity_24
abbrev w_X8_letterWeight (kc : Nat → ClassId) (a0 a1 a2 a3 a4 a5 a6 a7 a8 a9 a10 a11 a12 a13 a14 a15 a16 a17 a18 a19 : Nat) (textLength : Int32) (errorPlace : Int32) (undoable : Int32) (newest : Int32) (regions : Int32) (balloons : Int32) (letters : Int32) (loft : Int32) (start : Int32) (seed : Int32) (weight : Nat → Int32) : va_W := [(a0, .inr (8, [.ref a1, .ref a2, .ref a3, .ref a4, .ref a5, .ref a6, .ref a7, .ref a8, .ref a9, .int textLength, .int errorPlace, .int undoable, .int newest, .ref a10, .ref a11])), (a10, .inr (5, [.ref a12, .ref a13, .ref a14, .ref a15, .ref a16, .ref a17, .ref a18, .ref a19, .int regions, .int balloons, .int letters, .int loft, .int start, .int seed])), (a18, .inl (kc 1, 24, .inl weight))]
set_option maxHeartbeats 4000000 in
set_option maxRecDepth 100000 in
theorem c_X8_letterWeight (l : Launch) (D : va_G) (kc : Nat → ClassId) (N : Nat) (a0 a1 a2 a3 a4 a5 a6 a7 a8 a9 a10 a11 a12 a13 a14 a15 a16 a17 a18 a19 : Nat) (textLength : Int32) (errorPlace : Int32) (undoable : Int32) (newest : Int32) (regions : Int32) (balloons : Int32) (letters : Int32) (loft : Int32) (start : Int32) (seed : Int32) (weight : Nat → Int32) (x1 : Int32) (r_ : Int32) (hf : f_X8_letterWeight N letters weight x1 = some r_) : MI l yX8_letterWeight wsX8_letterWeight ({ frames := 1, cells := 0, slots := 0, locals := 21 }) D kc [.ref a0, .int x1] (w_X8_letterWeight kc a0 a1 a2 a3 a4 a5 a6 a7 a8 a9 a10 a11 a12 a13 a14 a15 a16 a17 a18 a19 textLength errorPlace undoable newest regions balloons letters loft start seed weight) (w_X8_letterWeight kc a0 a1 a2 a3 a4 a5 a6 a7 a8 a9 a10 a11 a12 a13 a14 a15 a16 a17 a18 a19 textLength errorPlace undoable newest regions balloons letters loft start seed weight) r_ := by
  refine gM_I (cc := cX8_letterWeight) (maxL := 2) (by decide) rfl (Nat.le_of_ble_eq_true rfl) ?_
  intro p e s m below meth c A ls Q hx hb hml hown hts hN hK hP hD hA hl kR
  have hS : va_S A s.heap s.heap [] := va_S.rf
  have hl : lv_has ls 2 [(0, .ref a0), (1, .int x1)] := hl
  have in_X8 : ∀ w ∈ u_ws RX8 TX8 15, w ∈ wsX8_letterWeight := by decide +kernel
  have lk_66 := hts (.fieldLink RX8 66 "BalloonMail" "siege" "LBalloonMail$Siege;") (by decide +kernel)
  have in_X5 : ∀ w ∈ u_ws RX5 TX5 14, w ∈ wsX8_letterWeight := by decide +kernel
  have lk_129 := hts (.fieldLink RX8 129 "BalloonMail$Siege" "weight" "[I") (by decide +kernel)
  unfold f_X8_letterWeight at hf
  refine lv_aload_n hx hb dX8_letterWeight_0 rfl (lv_at hl 0 rfl) ?_
  refine va_get (D := D) (ci := 8) (v := .ref a10) (C := RX8) (T := TX8) (N := 15) hx hb hts in_X8 hown hK hP 0 rfl rfl 13 (by decide) lk_66 (fun _ h9 => h9) rfl dX8_letterWeight_1 ?_
  refine lv_iload_n hx hb dX8_letterWeight_4 rfl (lv_at hl 1 rfl) ?_
  obtain ⟨r_1, hc, hf⟩ := ob1_some hf
  refine g_VZ (As := [.int x1]) (rest := []) (ws' := (w_X8_letterWeight kc a0 a1 a2 a3 a4 a5 a6 a7 a8 a9 a10 a11 a12 a13 a14 a15 a16 a17 a18 a19 textLength errorPlace undoable newest regions balloons letters loft start seed weight)) ⟨hx, hb, hml, hown, hts⟩ hN hK hP hD hS hA (c_X5_hasLetter l D kc N a10 a12 a13 a14 a15 a16 a17 a18 a19 regions balloons letters loft start seed x1 r_1 hc) (cwV 1 hts gX8_letterWeight_X5_hasLetter rfl rfl rfl (by decide +kernel) ⟨Nat.le_of_ble_eq_true rfl, Nat.le_of_ble_eq_true rfl⟩) [1] [0, 2] [0, 2, 1] (by exact ⟨rfl, rfl, by decide, rfl⟩) 1 5 rfl rfl rfl rfl hl.1 rfl (Nat.le_of_ble_eq_true rfl) dX8_letterWeight_5 ⟨Nat.le_refl _, Nat.le_refl _⟩ (fun H locs hz hP hD hS => ?_)
  have hz_2 := hz
  refine lv_if_eq (tgt := 23) hx hb dX8_letterWeight_8 (by decide) (fun hc => ?_) (fun hc => ?_)
  · have hf := o_t hc hf
    refine lv_iconst (v := (-1)) hx hb dX8_letterWeight_23 (by decide) ?_
    cases hf
    exact kR _ _ _ _ hP hD hS dX8_letterWeight_24
  · have hf := o_f hc hf
    refine lv_aload_n hx hb dX8_letterWeight_11 rfl (lv_at hl 0 rfl) ?_
    refine va_get (D := D) (ci := 8) (v := .ref a10) (C := RX8) (T := TX8) (N := 15) hx hb hts in_X8 hown hK hP 0 rfl rfl 13 (by decide) lk_66 (fun _ h9 => h9) rfl dX8_letterWeight_12 ?_
    refine va_get (D := D) (ci := 5) (v := .ref a18) (C := RX5) (T := TX5) (N := 14) hx hb hts in_X5 hown hK hP 1 rfl rfl 6 (by decide) lk_129 (fun _ h9 => h9) rfl dX8_letterWeight_15 ?_
    refine lv_iload_n hx hb dX8_letterWeight_18 rfl (lv_at hl 1 rfl) ?_
    obtain ⟨hi, hf⟩ := gIx_some hf
    refine va_iald hx hb hK hP 2 1 rfl rfl hi dX8_letterWeight_19 ?_
    refine lv_goto (tgt := 24) hx hb dX8_letterWeight_20 (by decide) ?_
    cases hf
    exact kR _ _ _ _ hP hD hS dX8_letterWeight_24
abbrev w_X8_canForecast (kc : Nat → ClassId) (a0 a1 a2 a3 a4 a5 a6 a7 a8 a9 a10 a11 a12 a13 a14 a15 a16 a17 a18 a19 a20 a21 a22 a23 a24 a25 : Nat) (textLength : Int32) (errorPlace : Int32) (undoable : Int32) (newest : Int32) (regions : Int32) (balloons : Int32) (letters : Int32) (loft : Int32) (start : Int32) (seed : Int32) (count : Int32) (turnCount : Int32) : va_W := [(a0, .inr (8, [.ref a1, .ref a2, .ref a3, .ref a4, .ref a5, .ref a6, .ref a7, .ref a8, .ref a9, .int textLength, .int errorPlace, .int undoable, .int newest, .ref a10, .ref a11])), (a10, .inr (5, [.ref a12, .ref a13, .ref a14, .ref a15, .ref a16, .ref a17, .ref a18, .ref a19, .int regions, .int balloons, .int letters, .int loft, .int start, .int seed])), (a12, .inr (7, [.int count, .int turnCount, .ref a20, .ref a21, .ref a22, .ref a23, .ref a24, .ref a25]))]
set_option maxHeartbeats 4000000 in
set_option maxRecDepth 100000 in
theorem c_X8_canForecast (l : Launch) (D : va_G) (kc : Nat → ClassId) (N : Nat) (a0 a1 a2 a3 a4 a5 a6 a7 a8 a9 a10 a11 a12 a13 a14 a15 a16 a17 a18 a19 a20 a21 a22 a23 a24 a25 : Nat) (textLength : Int32) (errorPlace : Int32) (undoable : Int32) (newest : Int32) (regions : Int32) (balloons : Int32) (letters : Int32) (loft : Int32) (start : Int32) (seed : Int32) (count : Int32) (turnCount : Int32) (x1 : Int32) (r_ : Int32) (hf : f_X8_canForecast N count x1 = some r_) : MZ l yX8_canForecast wsX8_canForecast ({ frames := 1, cells := 0, slots := 0, locals := 20 }) D kc [.ref a0, .int x1] (w_X8_canForecast kc a0 a1 a2 a3 a4 a5 a6 a7 a8 a9 a10 a11 a12 a13 a14 a15 a16 a17 a18 a19 a20 a21 a22 a23 a24 a25 textLength errorPlace undoable newest regions balloons letters loft start seed count turnCount) (w_X8_canForecast kc a0 a1 a2 a3 a4 a5 a6 a7 a8 a9 a10 a11 a12 a13 a14 a15 a16 a17 a18 a19 a20 a21 a22 a23 a24 a25 textLength errorPlace undoable newest regions balloons letters loft start seed count turnCount) r_ := by
  refine gM_Z (cc := cX8_canForecast) (maxL := 2) (by decide) rfl (Nat.le_of_ble_eq_true rfl) ?_
  intro p e s m below meth c A ls Q hx hb hml hown hts hN hK hP hD hA hl kR
  have hS : va_S A s.heap s.heap [] := va_S.rf
  have hl : lv_has ls 2 [(0, .ref a0), (1, .int x1)] := hl
  have in_X8 : ∀ w ∈ u_ws RX8 TX8 15, w ∈ wsX8_canForecast := by decide +kernel
  have lk_66 := hts (.fieldLink RX8 66 "BalloonMail" "siege" "LBalloonMail$Siege;") (by decide +kernel)
  have in_X5 : ∀ w ∈ u_ws RX5 TX5 14, w ∈ wsX8_canForecast := by decide +kernel
  have lk_103 := hts (.fieldLink RX8 103 "BalloonMail$Siege" "winds" "LBalloonMail$Winds;") (by decide +kernel)
  have in_X7 : ∀ w ∈ u_ws RX7 TX7 8, w ∈ wsX8_canForecast := by decide +kernel
  have lk_107 := hts (.fieldLink RX8 107 "BalloonMail$Winds" "count" "I") (by decide +kernel)
  unfold f_X8_canForecast at hf
  refine lv_iload_n hx hb dX8_canForecast_0 rfl (lv_at hl 1 rfl) ?_
  obtain ⟨r_1, hc, hf⟩ := ob1_some hf
  refine g_SZ (As := [.int x1]) (rest := []) (ws' := (w_X8_canForecast kc a0 a1 a2 a3 a4 a5 a6 a7 a8 a9 a10 a11 a12 a13 a14 a15 a16 a17 a18 a19 a20 a21 a22 a23 a24 a25 textLength errorPlace undoable newest regions balloons letters loft start seed count turnCount)) ⟨hx, hb, hml, hown, hts⟩ hN hK hP hD hS hA (c_X8_isForecast l D kc N x1 r_1 hc) (va_cwS 1 hts gX8_canForecast_X8_isForecast rfl rfl rfl (by decide +kernel) ⟨Nat.le_of_ble_eq_true rfl, Nat.le_of_ble_eq_true rfl⟩) [] [0, 1, 2] [0, 1, 2] (by exact ⟨rfl, rfl, by decide, rfl⟩) rfl hl.1 rfl (Nat.le_of_ble_eq_true rfl) dX8_canForecast_1 ⟨Nat.le_refl _, Nat.le_refl _⟩ (fun H locs hz hP hD hS => ?_)
  have hz_2 := hz
  refine lv_if_eq (tgt := 24) hx hb dX8_canForecast_4 (by decide) (fun hc => ?_) (fun hc => ?_)
  · have hf := o_t hc hf
    refine lv_iconst (v := 0) hx hb dX8_canForecast_24 (by decide) ?_
    cases hf
    exact kR _ _ _ _ (Or.inl rfl) hP hD hS dX8_canForecast_25
  · have hf := o_f hc hf
    refine lv_aload_n hx hb dX8_canForecast_7 rfl (lv_at hl 0 rfl) ?_
    refine va_get (D := D) (ci := 8) (v := .ref a10) (C := RX8) (T := TX8) (N := 15) hx hb hts in_X8 hown hK hP 0 rfl rfl 13 (by decide) lk_66 (fun _ h9 => h9) rfl dX8_canForecast_8 ?_
    refine va_get (D := D) (ci := 5) (v := .ref a12) (C := RX5) (T := TX5) (N := 14) hx hb hts in_X5 hown hK hP 1 rfl rfl 0 (by decide) lk_103 (fun _ h9 => h9) rfl dX8_canForecast_11 ?_
    refine va_get (D := D) (ci := 7) (v := .int count) (C := RX7) (T := TX7) (N := 8) hx hb hts in_X7 hown hK hP 2 rfl rfl 0 (by decide) lk_107 (fun _ h9 => h9) rfl dX8_canForecast_14 ?_
    refine lv_if_le (tgt := 24) hx hb dX8_canForecast_17 (by decide) (fun hc => ?_) (fun hc => ?_)
    · have hf := o_t hc hf
      refine lv_iconst (v := 0) hx hb dX8_canForecast_24 (by decide) ?_
      cases hf
      exact kR _ _ _ _ (Or.inl rfl) hP hD hS dX8_canForecast_25
    · have hf := o_f hc hf
      refine lv_iconst (v := 1) hx hb dX8_canForecast_20 (by decide) ?_
      refine lv_goto (tgt := 25) hx hb dX8_canForecast_21 (by decide) ?_
      cases hf
      exact kR _ _ _ _ (Or.inr rfl) hP hD hS dX8_canForecast_25
abbrev w_X8_windChance (kc : Nat → ClassId) (a0 a1 a2 a3 a4 a5 a6 a7 a8 a9 a10 a11 a12 a13 a14 a15 a16 a17 a18 a19 a20 a21 a22 a23 a24 a25 a26 a27 a28 a29 a30 a31 a32 a33 a34 a35 a36 : Nat) (textLength : Int32) (errorPlace : Int32) (undoable : Int32) (newest : Int32) (regions : Int32) (balloons : Int32) (letters : Int32) (loft : Int32) (start : Int32) (seed : Int32) (count : Int32) (turnCount : Int32) (day : Int32) (wind : Int32) (loft2 : Int32) (lost : Int32) (launchCount : Int32) (drawState : Int64) (now : Nat → Int64) (then_ : Nat → Int64) (follow : Nat → Int32) : va_W := [(a0, .inr (8, [.ref a1, .ref a2, .ref a3, .ref a4, .ref a5, .ref a6, .ref a7, .ref a8, .ref a9, .int textLength, .int errorPlace, .int undoable, .int newest, .ref a10, .ref a11])), (a10, .inr (5, [.ref a12, .ref a13, .ref a14, .ref a15, .ref a16, .ref a17, .ref a18, .ref a19, .int regions, .int balloons, .int letters, .int loft, .int start, .int seed])), (a12, .inr (7, [.int count, .int turnCount, .ref a20, .ref a21, .ref a22, .ref a23, .ref a24, .ref a25])), (a6, .inr (6, [.ref a26, .ref a27, .ref a28, .ref a29, .ref a30, .ref a31, .int day, .int wind, .int loft2, .int lost, .ref a32, .ref a33, .ref a34, .int launchCount, .long drawState])), (a3, .inr (0, [.ref a35, .ref a36])), (a35, .inl (kc 2, 6, .inr (.inl now))), (a36, .inl (kc 2, 6, .inr (.inl then_))), (a22, .inl (kc 1, 36, .inl follow))]
set_option maxHeartbeats 4000000 in
set_option maxRecDepth 100000 in
theorem c_X8_windChance (l : Launch) (D : va_G) (kc : Nat → ClassId) (N : Nat) (a0 a1 a2 a3 a4 a5 a6 a7 a8 a9 a10 a11 a12 a13 a14 a15 a16 a17 a18 a19 a20 a21 a22 a23 a24 a25 a26 a27 a28 a29 a30 a31 a32 a33 a34 a35 a36 : Nat) (textLength : Int32) (errorPlace : Int32) (undoable : Int32) (newest : Int32) (regions : Int32) (balloons : Int32) (letters : Int32) (loft : Int32) (start : Int32) (seed : Int32) (count : Int32) (turnCount : Int32) (day : Int32) (wind : Int32) (loft2 : Int32) (lost : Int32) (launchCount : Int32) (drawState : Int64) (now : Nat → Int64) (then_ : Nat → Int64) (follow : Nat → Int32) (x1 : Int32) (x2 : Int32) (r_ : Int64) (now' : Nat → Int64) (then_' : Nat → Int64) (hf : f_X8_windChance N count wind now then_ follow x1 x2 = some (r_, now', then_')) : ML l yX8_windChance wsX8_windChance ({ frames := 3, cells := 0, slots := 0, locals := 90 }) D kc [.ref a0, .int x1, .int x2] (w_X8_windChance kc a0 a1 a2 a3 a4 a5 a6 a7 a8 a9 a10 a11 a12 a13 a14 a15 a16 a17 a18 a19 a20 a21 a22 a23 a24 a25 a26 a27 a28 a29 a30 a31 a32 a33 a34 a35 a36 textLength errorPlace undoable newest regions balloons letters loft start seed count turnCount day wind loft2 lost launchCount drawState now then_ follow) (w_X8_windChance kc a0 a1 a2 a3 a4 a5 a6 a7 a8 a9 a10 a11 a12 a13 a14 a15 a16 a17 a18 a19 a20 a21 a22 a23 a24 a25 a26 a27 a28 a29 a30 a31 a32 a33 a34 a35 a36 textLength errorPlace undoable newest regions balloons letters loft start seed count turnCount day wind loft2 lost launchCount drawState now' then_' follow) r_ := by
  refine gM_L (cc := cX8_windChance) (maxL := 3) (by decide) rfl (Nat.le_of_ble_eq_true rfl) ?_
  intro p e s m below meth c A ls Q hx hb hml hown hts hN hK hP hD hA hl kR
  have hS : va_S A s.heap s.heap [] := va_S.rf
  have hl : lv_has ls 3 [(0, .ref a0), (1, .int x1), (2, .int x2)] := hl
  have in_X8 : ∀ w ∈ u_ws RX8 TX8 15, w ∈ wsX8_windChance := by decide +kernel
  have lk_66 := hts (.fieldLink RX8 66 "BalloonMail" "siege" "LBalloonMail$Siege;") (by decide +kernel)
  have in_X5 : ∀ w ∈ u_ws RX5 TX5 14, w ∈ wsX8_windChance := by decide +kernel
  have lk_103 := hts (.fieldLink RX8 103 "BalloonMail$Siege" "winds" "LBalloonMail$Winds;") (by decide +kernel)
  have lk_23 := hts (.fieldLink RX8 23 "BalloonMail" "chances" "LBalloonMail$Chances;") (by decide +kernel)
  have lk_44 := hts (.fieldLink RX8 44 "BalloonMail" "current" "LBalloonMail$State;") (by decide +kernel)
  have in_X6 : ∀ w ∈ u_ws RX6 TX6 15, w ∈ wsX8_windChance := by decide +kernel
  have lk_140 := hts (.fieldLink RX8 140 "BalloonMail$State" "wind" "I") (by decide +kernel)
  unfold f_X8_windChance at hf
  refine lv_aload_n hx hb dX8_windChance_0 rfl (lv_at hl 0 rfl) ?_
  refine va_get (D := D) (ci := 8) (v := .ref a10) (C := RX8) (T := TX8) (N := 15) hx hb hts in_X8 hown hK hP 0 rfl rfl 13 (by decide) lk_66 (fun _ h9 => h9) rfl dX8_windChance_1 ?_
  refine va_get (D := D) (ci := 5) (v := .ref a12) (C := RX5) (T := TX5) (N := 14) hx hb hts in_X5 hown hK hP 1 rfl rfl 0 (by decide) lk_103 (fun _ h9 => h9) rfl dX8_windChance_4 ?_
  refine lv_iload_n hx hb dX8_windChance_7 rfl (lv_at hl 1 rfl) ?_
  obtain ⟨r_1, hc, hf⟩ := ob1_some hf
  refine g_VZ (As := [.int x1]) (rest := []) (ws' := (w_X8_windChance kc a0 a1 a2 a3 a4 a5 a6 a7 a8 a9 a10 a11 a12 a13 a14 a15 a16 a17 a18 a19 a20 a21 a22 a23 a24 a25 a26 a27 a28 a29 a30 a31 a32 a33 a34 a35 a36 textLength errorPlace undoable newest regions balloons letters loft start seed count turnCount day wind loft2 lost launchCount drawState now then_ follow)) ⟨hx, hb, hml, hown, hts⟩ hN hK hP hD hS hA (c_X7_has l D kc N a12 a20 a21 a22 a23 a24 a25 count turnCount x1 r_1 hc) (cwV 1 hts gX8_windChance_X7_has rfl rfl rfl (by decide +kernel) ⟨Nat.le_of_ble_eq_true rfl, Nat.le_of_ble_eq_true rfl⟩) [2] [0, 1, 3, 4, 5, 6, 7] [0, 1, 7, 2, 3, 4, 5, 6] (by exact ⟨rfl, rfl, by decide, rfl⟩) 2 7 rfl rfl rfl rfl hl.1 rfl (Nat.le_of_ble_eq_true rfl) dX8_windChance_8 ⟨Nat.le_refl _, Nat.le_refl _⟩ (fun H locs hz hP hD hS => ?_)
  have hz_2 := hz
  refine lv_if_eq (tgt := 21) hx hb dX8_windChance_11 (by decide) (fun hc => ?_) (fun hc => ?_)
  · have hf := o_t hc hf
    refine lv_ldc2 (v := (-1)) hx hb hown (hts (.constantLong RX8 138 (-1)) (by decide +kernel)) dX8_windChance_21 ?_
    cases hf
    exact kR _ _ _ _ hP hD hS dX8_windChance_24
  · have hf := o_f hc hf
    refine lv_iload_n hx hb dX8_windChance_14 rfl (lv_at hl 2 rfl) ?_
    obtain ⟨r_3, hc, hf⟩ := ob1_some hf
    refine g_SZ (As := [.int x2]) (rest := []) (ws' := (w_X8_windChance kc a0 a1 a2 a3 a4 a5 a6 a7 a8 a9 a10 a11 a12 a13 a14 a15 a16 a17 a18 a19 a20 a21 a22 a23 a24 a25 a26 a27 a28 a29 a30 a31 a32 a33 a34 a35 a36 textLength errorPlace undoable newest regions balloons letters loft start seed count turnCount day wind loft2 lost launchCount drawState now then_ follow)) ⟨hx, hb, hml, hown, hts⟩ hN hK hP hD hS hA (c_X8_isForecast l D kc N x2 r_3 hc) (va_cwS 1 hts gX8_windChance_X8_isForecast rfl rfl rfl (by decide +kernel) ⟨Nat.le_of_ble_eq_true rfl, Nat.le_of_ble_eq_true rfl⟩) [] [0, 1, 2, 3, 4, 5, 6, 7] [0, 1, 2, 3, 4, 5, 6, 7] (by exact ⟨rfl, rfl, by decide, rfl⟩) rfl hl.1 rfl (Nat.le_of_ble_eq_true rfl) dX8_windChance_15 ⟨Nat.le_refl _, Nat.le_refl _⟩ (fun H locs hz hP hD hS => ?_)
    have hz_4 := hz
    refine lv_if_ne (tgt := 25) hx hb dX8_windChance_18 (by decide) (fun hc => ?_) (fun hc => ?_)
    · have hf := o_f hc hf
      refine lv_aload_n hx hb dX8_windChance_25 rfl (lv_at hl 0 rfl) ?_
      refine va_get (D := D) (ci := 8) (v := .ref a3) (C := RX8) (T := TX8) (N := 15) hx hb hts in_X8 hown hK hP 0 rfl rfl 2 (by decide) lk_23 (fun _ h9 => h9) rfl dX8_windChance_26 ?_
      refine lv_aload_n hx hb dX8_windChance_29 rfl (lv_at hl 0 rfl) ?_
      refine va_get (D := D) (ci := 8) (v := .ref a10) (C := RX8) (T := TX8) (N := 15) hx hb hts in_X8 hown hK hP 0 rfl rfl 13 (by decide) lk_66 (fun _ h9 => h9) rfl dX8_windChance_30 ?_
      refine va_get (D := D) (ci := 5) (v := .ref a12) (C := RX5) (T := TX5) (N := 14) hx hb hts in_X5 hown hK hP 1 rfl rfl 0 (by decide) lk_103 (fun _ h9 => h9) rfl dX8_windChance_33 ?_
      refine lv_aload_n hx hb dX8_windChance_36 rfl (lv_at hl 0 rfl) ?_
      refine va_get (D := D) (ci := 8) (v := .ref a6) (C := RX8) (T := TX8) (N := 15) hx hb hts in_X8 hown hK hP 0 rfl rfl 5 (by decide) lk_44 (fun _ h9 => h9) rfl dX8_windChance_37 ?_
      refine va_get (D := D) (ci := 6) (v := .int wind) (C := RX6) (T := TX6) (N := 15) hx hb hts in_X6 hown hK hP 3 rfl rfl 7 (by decide) lk_140 (fun _ h9 => h9) rfl dX8_windChance_40 ?_
      refine lv_iload_n hx hb dX8_windChance_43 rfl (lv_at hl 2 rfl) ?_
      refine lv_bipush (v := (-2)) hx hb dX8_windChance_44 (by decide) ?_
      obtain ⟨now_5, then__6, hc, hf⟩ := ob2_some hf
      refine g_VV (As := [.ref a12, .int wind, .int x2, .int (-2)]) (rest := []) (ws' := (w_X8_windChance kc a0 a1 a2 a3 a4 a5 a6 a7 a8 a9 a10 a11 a12 a13 a14 a15 a16 a17 a18 a19 a20 a21 a22 a23 a24 a25 a26 a27 a28 a29 a30 a31 a32 a33 a34 a35 a36 textLength errorPlace undoable newest regions balloons letters loft start seed count turnCount day wind loft2 lost launchCount drawState now_5 then__6 follow)) ⟨hx, hb, hml, hown, hts⟩ hN hK hP hD hS hA (c_X0_lookAhead l D kc N a3 a35 a36 a12 a20 a21 a22 a23 a24 a25 now then_ count turnCount follow wind x2 (-2) now_5 then__6 hc) (cwV 4 hts gX8_windChance_X0_lookAhead rfl rfl rfl (by decide +kernel) ⟨Nat.le_of_ble_eq_true rfl, Nat.le_of_ble_eq_true rfl⟩) [4, 5, 6, 2, 7] [0, 1, 3] [0, 1, 6, 2, 3, 4, 5, 7] (by exact ⟨rfl, rfl, by decide, rfl⟩) 4 0 rfl rfl rfl rfl hl.1 rfl (Nat.le_of_ble_eq_true rfl) dX8_windChance_46 ⟨Nat.le_refl _, Nat.le_refl _⟩ (fun H locs hP hD hS => ?_)
      refine lv_aload_n hx hb dX8_windChance_49 rfl (lv_at hl 0 rfl) ?_
      refine va_get (D := D) (ci := 8) (v := .ref a3) (C := RX8) (T := TX8) (N := 15) hx hb hts in_X8 hown hK hP 0 rfl rfl 2 (by decide) lk_23 (fun _ h9 => h9) rfl dX8_windChance_50 ?_
      refine lv_iload_n hx hb dX8_windChance_53 rfl (lv_at hl 1 rfl) ?_
      obtain ⟨r_7, hc, hf⟩ := ob1_some hf
      refine g_VL (As := [.int x1]) (rest := []) (ws' := (w_X8_windChance kc a0 a1 a2 a3 a4 a5 a6 a7 a8 a9 a10 a11 a12 a13 a14 a15 a16 a17 a18 a19 a20 a21 a22 a23 a24 a25 a26 a27 a28 a29 a30 a31 a32 a33 a34 a35 a36 textLength errorPlace undoable newest regions balloons letters loft start seed count turnCount day wind loft2 lost launchCount drawState now_5 then__6 follow)) ⟨hx, hb, hml, hown, hts⟩ hN hK hP hD hS hA (c_X0_of l D kc N a3 a35 a36 now_5 x1 r_7 hc) (cwV 1 hts gX8_windChance_X0_of rfl rfl rfl (by decide +kernel) ⟨Nat.le_of_ble_eq_true rfl, Nat.le_of_ble_eq_true rfl⟩) [4, 5] [0, 1, 2, 3, 6, 7] [0, 1, 2, 3, 6, 7, 4, 5] (by exact ⟨rfl, rfl, by decide, rfl⟩) 4 0 rfl rfl rfl rfl hl.1 rfl (Nat.le_of_ble_eq_true rfl) dX8_windChance_54 ⟨Nat.le_refl _, Nat.le_refl _⟩ (fun H locs hP hD hS => ?_)
      cases hf
      exact kR _ _ _ _ hP hD hS dX8_windChance_57
    · have hf := o_t hc hf
      refine lv_ldc2 (v := (-1)) hx hb hown (hts (.constantLong RX8 138 (-1)) (by decide +kernel)) dX8_windChance_21 ?_
      cases hf
      exact kR _ _ _ _ hP hD hS dX8_windChance_24
abbrev w_X8_avoidChance (kc : Nat → ClassId) (a0 a1 a2 a3 a4 a5 a6 a7 a8 a9 a10 a11 a12 a13 a14 a15 a16 a17 a18 a19 a20 a21 a22 a23 a24 a25 a26 a27 a28 a29 a30 a31 a32 a33 a34 a35 a36 : Nat) (textLength : Int32) (errorPlace : Int32) (undoable : Int32) (newest : Int32) (regions : Int32) (balloons : Int32) (letters : Int32) (loft : Int32) (start : Int32) (seed : Int32) (count : Int32) (turnCount : Int32) (day : Int32) (wind : Int32) (loft2 : Int32) (lost : Int32) (launchCount : Int32) (drawState : Int64) (now : Nat → Int64) (then_ : Nat → Int64) (follow : Nat → Int32) : va_W := [(a0, .inr (8, [.ref a1, .ref a2, .ref a3, .ref a4, .ref a5, .ref a6, .ref a7, .ref a8, .ref a9, .int textLength, .int errorPlace, .int undoable, .int newest, .ref a10, .ref a11])), (a10, .inr (5, [.ref a12, .ref a13, .ref a14, .ref a15, .ref a16, .ref a17, .ref a18, .ref a19, .int regions, .int balloons, .int letters, .int loft, .int start, .int seed])), (a12, .inr (7, [.int count, .int turnCount, .ref a20, .ref a21, .ref a22, .ref a23, .ref a24, .ref a25])), (a6, .inr (6, [.ref a26, .ref a27, .ref a28, .ref a29, .ref a30, .ref a31, .int day, .int wind, .int loft2, .int lost, .ref a32, .ref a33, .ref a34, .int launchCount, .long drawState])), (a3, .inr (0, [.ref a35, .ref a36])), (a35, .inl (kc 2, 6, .inr (.inl now))), (a36, .inl (kc 2, 6, .inr (.inl then_))), (a22, .inl (kc 1, 36, .inl follow))]
set_option maxHeartbeats 4000000 in
set_option maxRecDepth 100000 in
theorem c_X8_avoidChance (l : Launch) (D : va_G) (kc : Nat → ClassId) (N : Nat) (a0 a1 a2 a3 a4 a5 a6 a7 a8 a9 a10 a11 a12 a13 a14 a15 a16 a17 a18 a19 a20 a21 a22 a23 a24 a25 a26 a27 a28 a29 a30 a31 a32 a33 a34 a35 a36 : Nat) (textLength : Int32) (errorPlace : Int32) (undoable : Int32) (newest : Int32) (regions : Int32) (balloons : Int32) (letters : Int32) (loft : Int32) (start : Int32) (seed : Int32) (count : Int32) (turnCount : Int32) (day : Int32) (wind : Int32) (loft2 : Int32) (lost : Int32) (launchCount : Int32) (drawState : Int64) (now : Nat → Int64) (then_ : Nat → Int64) (follow : Nat → Int32) (x1 : Int32) (x2 : Int32) (r_ : Int64) (now' : Nat → Int64) (then_' : Nat → Int64) (hf : f_X8_avoidChance N count wind now then_ follow x1 x2 = some (r_, now', then_')) : ML l yX8_avoidChance wsX8_avoidChance ({ frames := 3, cells := 0, slots := 0, locals := 90 }) D kc [.ref a0, .int x1, .int x2] (w_X8_avoidChance kc a0 a1 a2 a3 a4 a5 a6 a7 a8 a9 a10 a11 a12 a13 a14 a15 a16 a17 a18 a19 a20 a21 a22 a23 a24 a25 a26 a27 a28 a29 a30 a31 a32 a33 a34 a35 a36 textLength errorPlace undoable newest regions balloons letters loft start seed count turnCount day wind loft2 lost launchCount drawState now then_ follow) (w_X8_avoidChance kc a0 a1 a2 a3 a4 a5 a6 a7 a8 a9 a10 a11 a12 a13 a14 a15 a16 a17 a18 a19 a20 a21 a22 a23 a24 a25 a26 a27 a28 a29 a30 a31 a32 a33 a34 a35 a36 textLength errorPlace undoable newest regions balloons letters loft start seed count turnCount day wind loft2 lost launchCount drawState now' then_' follow) r_ := by
  refine gM_L (cc := cX8_avoidChance) (maxL := 3) (by decide) rfl (Nat.le_of_ble_eq_true rfl) ?_
  intro p e s m below meth c A ls Q hx hb hml hown hts hN hK hP hD hA hl kR
  have hS : va_S A s.heap s.heap [] := va_S.rf
  have hl : lv_has ls 3 [(0, .ref a0), (1, .int x1), (2, .int x2)] := hl
  have in_X8 : ∀ w ∈ u_ws RX8 TX8 15, w ∈ wsX8_avoidChance := by decide +kernel
  have lk_66 := hts (.fieldLink RX8 66 "BalloonMail" "siege" "LBalloonMail$Siege;") (by decide +kernel)
  have in_X5 : ∀ w ∈ u_ws RX5 TX5 14, w ∈ wsX8_avoidChance := by decide +kernel
  have lk_103 := hts (.fieldLink RX8 103 "BalloonMail$Siege" "winds" "LBalloonMail$Winds;") (by decide +kernel)
  have lk_23 := hts (.fieldLink RX8 23 "BalloonMail" "chances" "LBalloonMail$Chances;") (by decide +kernel)
  have lk_44 := hts (.fieldLink RX8 44 "BalloonMail" "current" "LBalloonMail$State;") (by decide +kernel)
  have in_X6 : ∀ w ∈ u_ws RX6 TX6 15, w ∈ wsX8_avoidChance := by decide +kernel
  have lk_140 := hts (.fieldLink RX8 140 "BalloonMail$State" "wind" "I") (by decide +kernel)
  unfold f_X8_avoidChance at hf
  refine lv_aload_n hx hb dX8_avoidChance_0 rfl (lv_at hl 0 rfl) ?_
  refine va_get (D := D) (ci := 8) (v := .ref a10) (C := RX8) (T := TX8) (N := 15) hx hb hts in_X8 hown hK hP 0 rfl rfl 13 (by decide) lk_66 (fun _ h9 => h9) rfl dX8_avoidChance_1 ?_
  refine va_get (D := D) (ci := 5) (v := .ref a12) (C := RX5) (T := TX5) (N := 14) hx hb hts in_X5 hown hK hP 1 rfl rfl 0 (by decide) lk_103 (fun _ h9 => h9) rfl dX8_avoidChance_4 ?_
  refine lv_iload_n hx hb dX8_avoidChance_7 rfl (lv_at hl 1 rfl) ?_
  obtain ⟨r_1, hc, hf⟩ := ob1_some hf
  refine g_VZ (As := [.int x1]) (rest := []) (ws' := (w_X8_avoidChance kc a0 a1 a2 a3 a4 a5 a6 a7 a8 a9 a10 a11 a12 a13 a14 a15 a16 a17 a18 a19 a20 a21 a22 a23 a24 a25 a26 a27 a28 a29 a30 a31 a32 a33 a34 a35 a36 textLength errorPlace undoable newest regions balloons letters loft start seed count turnCount day wind loft2 lost launchCount drawState now then_ follow)) ⟨hx, hb, hml, hown, hts⟩ hN hK hP hD hS hA (c_X7_has l D kc N a12 a20 a21 a22 a23 a24 a25 count turnCount x1 r_1 hc) (cwV 1 hts gX8_avoidChance_X7_has rfl rfl rfl (by decide +kernel) ⟨Nat.le_of_ble_eq_true rfl, Nat.le_of_ble_eq_true rfl⟩) [2] [0, 1, 3, 4, 5, 6, 7] [0, 1, 7, 2, 3, 4, 5, 6] (by exact ⟨rfl, rfl, by decide, rfl⟩) 2 7 rfl rfl rfl rfl hl.1 rfl (Nat.le_of_ble_eq_true rfl) dX8_avoidChance_8 ⟨Nat.le_refl _, Nat.le_refl _⟩ (fun H locs hz hP hD hS => ?_)
  have hz_2 := hz
  refine lv_if_eq (tgt := 21) hx hb dX8_avoidChance_11 (by decide) (fun hc => ?_) (fun hc => ?_)
  · have hf := o_t hc hf
    refine lv_ldc2 (v := (-1)) hx hb hown (hts (.constantLong RX8 138 (-1)) (by decide +kernel)) dX8_avoidChance_21 ?_
    cases hf
    exact kR _ _ _ _ hP hD hS dX8_avoidChance_24
  · have hf := o_f hc hf
    refine lv_iload_n hx hb dX8_avoidChance_14 rfl (lv_at hl 2 rfl) ?_
    obtain ⟨r_3, hc, hf⟩ := ob1_some hf
    refine g_SZ (As := [.int x2]) (rest := []) (ws' := (w_X8_avoidChance kc a0 a1 a2 a3 a4 a5 a6 a7 a8 a9 a10 a11 a12 a13 a14 a15 a16 a17 a18 a19 a20 a21 a22 a23 a24 a25 a26 a27 a28 a29 a30 a31 a32 a33 a34 a35 a36 textLength errorPlace undoable newest regions balloons letters loft start seed count turnCount day wind loft2 lost launchCount drawState now then_ follow)) ⟨hx, hb, hml, hown, hts⟩ hN hK hP hD hS hA (c_X8_isForecast l D kc N x2 r_3 hc) (va_cwS 1 hts gX8_avoidChance_X8_isForecast rfl rfl rfl (by decide +kernel) ⟨Nat.le_of_ble_eq_true rfl, Nat.le_of_ble_eq_true rfl⟩) [] [0, 1, 2, 3, 4, 5, 6, 7] [0, 1, 2, 3, 4, 5, 6, 7] (by exact ⟨rfl, rfl, by decide, rfl⟩) rfl hl.1 rfl (Nat.le_of_ble_eq_true rfl) dX8_avoidChance_15 ⟨Nat.le_refl _, Nat.le_refl _⟩ (fun H locs hz hP hD hS => ?_)
    have hz_4 := hz
    refine lv_if_ne (tgt := 25) hx hb dX8_avoidChance_18 (by decide) (fun hc => ?_) (fun hc => ?_)
    · have hf := o_f hc hf
      refine lv_aload_n hx hb dX8_avoidChance_25 rfl (lv_at hl 0 rfl) ?_
      refine va_get (D := D) (ci := 8) (v := .ref a3) (C := RX8) (T := TX8) (N := 15) hx hb hts in_X8 hown hK hP 0 rfl rfl 2 (by decide) lk_23 (fun _ h9 => h9) rfl dX8_avoidChance_26 ?_
      refine lv_aload_n hx hb dX8_avoidChance_29 rfl (lv_at hl 0 rfl) ?_
      refine va_get (D := D) (ci := 8) (v := .ref a10) (C := RX8) (T := TX8) (N := 15) hx hb hts in_X8 hown hK hP 0 rfl rfl 13 (by decide) lk_66 (fun _ h9 => h9) rfl dX8_avoidChance_30 ?_
      refine va_get (D := D) (ci := 5) (v := .ref a12) (C := RX5) (T := TX5) (N := 14) hx hb hts in_X5 hown hK hP 1 rfl rfl 0 (by decide) lk_103 (fun _ h9 => h9) rfl dX8_avoidChance_33 ?_
      refine lv_aload_n hx hb dX8_avoidChance_36 rfl (lv_at hl 0 rfl) ?_
      refine va_get (D := D) (ci := 8) (v := .ref a6) (C := RX8) (T := TX8) (N := 15) hx hb hts in_X8 hown hK hP 0 rfl rfl 5 (by decide) lk_44 (fun _ h9 => h9) rfl dX8_avoidChance_37 ?_
      refine va_get (D := D) (ci := 6) (v := .int wind) (C := RX6) (T := TX6) (N := 15) hx hb hts in_X6 hown hK hP 3 rfl rfl 7 (by decide) lk_140 (fun _ h9 => h9) rfl dX8_avoidChance_40 ?_
      refine lv_iload_n hx hb dX8_avoidChance_43 rfl (lv_at hl 2 rfl) ?_
      refine lv_iload_n hx hb dX8_avoidChance_44 rfl (lv_at hl 1 rfl) ?_
      obtain ⟨now_5, then__6, hc, hf⟩ := ob2_some hf
      refine g_VV (As := [.ref a12, .int wind, .int x2, .int x1]) (rest := []) (ws' := (w_X8_avoidChance kc a0 a1 a2 a3 a4 a5 a6 a7 a8 a9 a10 a11 a12 a13 a14 a15 a16 a17 a18 a19 a20 a21 a22 a23 a24 a25 a26 a27 a28 a29 a30 a31 a32 a33 a34 a35 a36 textLength errorPlace undoable newest regions balloons letters loft start seed count turnCount day wind loft2 lost launchCount drawState now_5 then__6 follow)) ⟨hx, hb, hml, hown, hts⟩ hN hK hP hD hS hA (c_X0_lookAhead l D kc N a3 a35 a36 a12 a20 a21 a22 a23 a24 a25 now then_ count turnCount follow wind x2 x1 now_5 then__6 hc) (cwV 4 hts gX8_avoidChance_X0_lookAhead rfl rfl rfl (by decide +kernel) ⟨Nat.le_of_ble_eq_true rfl, Nat.le_of_ble_eq_true rfl⟩) [4, 5, 6, 2, 7] [0, 1, 3] [0, 1, 6, 2, 3, 4, 5, 7] (by exact ⟨rfl, rfl, by decide, rfl⟩) 4 0 rfl rfl rfl rfl hl.1 rfl (Nat.le_of_ble_eq_true rfl) dX8_avoidChance_45 ⟨Nat.le_refl _, Nat.le_refl _⟩ (fun H locs hP hD hS => ?_)
      refine lv_aload_n hx hb dX8_avoidChance_48 rfl (lv_at hl 0 rfl) ?_
      refine va_get (D := D) (ci := 8) (v := .ref a3) (C := RX8) (T := TX8) (N := 15) hx hb hts in_X8 hown hK hP 0 rfl rfl 2 (by decide) lk_23 (fun _ h9 => h9) rfl dX8_avoidChance_49 ?_
      obtain ⟨r_7, hc, hf⟩ := ob1_some hf
      refine g_VL (As := []) (rest := []) (ws' := (w_X8_avoidChance kc a0 a1 a2 a3 a4 a5 a6 a7 a8 a9 a10 a11 a12 a13 a14 a15 a16 a17 a18 a19 a20 a21 a22 a23 a24 a25 a26 a27 a28 a29 a30 a31 a32 a33 a34 a35 a36 textLength errorPlace undoable newest regions balloons letters loft start seed count turnCount day wind loft2 lost launchCount drawState now_5 then__6 follow)) ⟨hx, hb, hml, hown, hts⟩ hN hK hP hD hS hA (c_X0_sum l D kc N a3 a35 a36 now_5 r_7 hc) (cwV 0 hts gX8_avoidChance_X0_sum rfl rfl rfl (by decide +kernel) ⟨Nat.le_of_ble_eq_true rfl, Nat.le_of_ble_eq_true rfl⟩) [4, 5] [0, 1, 2, 3, 6, 7] [0, 1, 2, 3, 6, 7, 4, 5] (by exact ⟨rfl, rfl, by decide, rfl⟩) 4 0 rfl rfl rfl rfl hl.1 rfl (Nat.le_of_ble_eq_true rfl) dX8_avoidChance_52 ⟨Nat.le_refl _, Nat.le_refl _⟩ (fun H locs hP hD hS => ?_)
      cases hf
      exact kR _ _ _ _ hP hD hS dX8_avoidChance_55
    · have hf := o_t hc hf
      refine lv_ldc2 (v := (-1)) hx hb hown (hts (.constantLong RX8 138 (-1)) (by decide +kernel)) dX8_avoidChance_21 ?_
      cases hf
      exact kR _ _ _ _ hP hD hS dX8_avoidChance_24
abbrev w_X8_landingChance (kc : Nat → ClassId) (a0 a1 a2 a3 a4 a5 a6 a7 a8 a9 a10 a11 a12 a13 a14 a15 a16 a17 a18 a19 a20 a21 a22 a23 a24 a25 a26 a27 a28 a29 a30 a31 a32 a33 a34 a35 a36 : Nat) (textLength : Int32) (errorPlace : Int32) (undoable : Int32) (newest : Int32) (regions : Int32) (balloons : Int32) (letters : Int32) (loft : Int32) (start : Int32) (seed : Int32) (count : Int32) (turnCount : Int32) (day : Int32) (wind : Int32) (loft2 : Int32) (lost : Int32) (launchCount : Int32) (drawState : Int64) (now : Nat → Int64) (then_ : Nat → Int64) (follow : Nat → Int32) (land : Nat → Int32) : va_W := [(a0, .inr (8, [.ref a1, .ref a2, .ref a3, .ref a4, .ref a5, .ref a6, .ref a7, .ref a8, .ref a9, .int textLength, .int errorPlace, .int undoable, .int newest, .ref a10, .ref a11])), (a10, .inr (5, [.ref a12, .ref a13, .ref a14, .ref a15, .ref a16, .ref a17, .ref a18, .ref a19, .int regions, .int balloons, .int letters, .int loft, .int start, .int seed])), (a12, .inr (7, [.int count, .int turnCount, .ref a20, .ref a21, .ref a22, .ref a23, .ref a24, .ref a25])), (a6, .inr (6, [.ref a26, .ref a27, .ref a28, .ref a29, .ref a30, .ref a31, .int day, .int wind, .int loft2, .int lost, .ref a32, .ref a33, .ref a34, .int launchCount, .long drawState])), (a3, .inr (0, [.ref a35, .ref a36])), (a35, .inl (kc 2, 6, .inr (.inl now))), (a36, .inl (kc 2, 6, .inr (.inl then_))), (a22, .inl (kc 1, 36, .inl follow)), (a23, .inl (kc 1, 54, .inl land))]
set_option maxHeartbeats 4000000 in
set_option maxRecDepth 100000 in
theorem c_X8_landingChance (l : Launch) (D : va_G) (kc : Nat → ClassId) (N : Nat) (a0 a1 a2 a3 a4 a5 a6 a7 a8 a9 a10 a11 a12 a13 a14 a15 a16 a17 a18 a19 a20 a21 a22 a23 a24 a25 a26 a27 a28 a29 a30 a31 a32 a33 a34 a35 a36 : Nat) (textLength : Int32) (errorPlace : Int32) (undoable : Int32) (newest : Int32) (regions : Int32) (balloons : Int32) (letters : Int32) (loft : Int32) (start : Int32) (seed : Int32) (count : Int32) (turnCount : Int32) (day : Int32) (wind : Int32) (loft2 : Int32) (lost : Int32) (launchCount : Int32) (drawState : Int64) (now : Nat → Int64) (then_ : Nat → Int64) (follow : Nat → Int32) (land : Nat → Int32) (x1 : Int32) (x2 : Int32) (r_ : Int64) (now' : Nat → Int64) (then_' : Nat → Int64) (hf : f_X8_landingChance N regions count wind now then_ follow land x1 x2 = some (r_, now', then_')) : ML l yX8_landingChance wsX8_landingChance ({ frames := 3, cells := 0, slots := 0, locals := 90 }) D kc [.ref a0, .int x1, .int x2] (w_X8_landingChance kc a0 a1 a2 a3 a4 a5 a6 a7 a8 a9 a10 a11 a12 a13 a14 a15 a16 a17 a18 a19 a20 a21 a22 a23 a24 a25 a26 a27 a28 a29 a30 a31 a32 a33 a34 a35 a36 textLength errorPlace undoable newest regions balloons letters loft start seed count turnCount day wind loft2 lost launchCount drawState now then_ follow land) (w_X8_landingChance kc a0 a1 a2 a3 a4 a5 a6 a7 a8 a9 a10 a11 a12 a13 a14 a15 a16 a17 a18 a19 a20 a21 a22 a23 a24 a25 a26 a27 a28 a29 a30 a31 a32 a33 a34 a35 a36 textLength errorPlace undoable newest regions balloons letters loft start seed count turnCount day wind loft2 lost launchCount drawState now' then_' follow land) r_ := by
  refine gM_L (cc := cX8_landingChance) (maxL := 4) (by decide) rfl (Nat.le_of_ble_eq_true rfl) ?_
  intro p e s m below meth c A ls Q hx hb hml hown hts hN hK hP hD hA hl kR
  have hS : va_S A s.heap s.heap [] := va_S.rf
  have hl : lv_has ls 4 [(0, .ref a0), (1, .int x1), (2, .int x2)] := hl
  have in_X8 : ∀ w ∈ u_ws RX8 TX8 15, w ∈ wsX8_landingChance := by decide +kernel
  have lk_23 := hts (.fieldLink RX8 23 "BalloonMail" "chances" "LBalloonMail$Chances;") (by decide +kernel)
  have lk_66 := hts (.fieldLink RX8 66 "BalloonMail" "siege" "LBalloonMail$Siege;") (by decide +kernel)
  have in_X5 : ∀ w ∈ u_ws RX5 TX5 14, w ∈ wsX8_landingChance := by decide +kernel
  have lk_103 := hts (.fieldLink RX8 103 "BalloonMail$Siege" "winds" "LBalloonMail$Winds;") (by decide +kernel)
  have lk_44 := hts (.fieldLink RX8 44 "BalloonMail" "current" "LBalloonMail$State;") (by decide +kernel)
  have in_X6 : ∀ w ∈ u_ws RX6 TX6 15, w ∈ wsX8_landingChance := by decide +kernel
  have lk_140 := hts (.fieldLink RX8 140 "BalloonMail$State" "wind" "I") (by decide +kernel)
  have J22 : ∀ (k0_22 : Int32), f_X8_landingChance_j22 N count wind now then_ follow land x1 x2 k0_22 = some (r_, now', then_') → ∀ (H : Heap) (locs : List Loc) (ls : Array Slot), va_P D vwCl (w_X8_landingChance kc a0 a1 a2 a3 a4 a5 a6 a7 a8 a9 a10 a11 a12 a13 a14 a15 a16 a17 a18 a19 a20 a21 a22 a23 a24 a25 a26 a27 a28 a29 a30 a31 a32 a33 a34 a35 a36 textLength errorPlace undoable newest regions balloons letters loft start seed count turnCount day wind loft2 lost launchCount drawState now then_ follow land) H → va_D A (w_X8_landingChance kc a0 a1 a2 a3 a4 a5 a6 a7 a8 a9 a10 a11 a12 a13 a14 a15 a16 a17 a18 a19 a20 a21 a22 a23 a24 a25 a26 a27 a28 a29 a30 a31 a32 a33 a34 a35 a36 textLength errorPlace undoable newest regions balloons letters loft start seed count turnCount day wind loft2 lost launchCount drawState now then_ follow land) → va_S A s.heap H locs → lv_has ls 4 [(0, .ref a0), (1, .int x1), (2, .int x2)] → W p l e ({ frames := 3, cells := 0, slots := 0, locals := 90 }) s m (([.ref a0, .int x1, .int x2] : List Value).toArray) below meth c H locs 0 0 Q (F0 m 22 ls [.int k0_22]) := by
    clear hf
    intro k0_22 hf H locs ls hP hD hS hl
    unfold f_X8_landingChance_j22 at hf
    refine lv_istore_n (lv' := [(3, .int k0_22), (0, .ref a0), (1, .int x1), (2, .int x2)]) hx hb dX8_landingChance_22 rfl hl (by decide) rfl (fun ls hl => ?_)
    refine lv_iload_n hx hb dX8_landingChance_23 rfl (lv_at hl 0 rfl) ?_
    refine lv_if_eq (tgt := 35) hx hb dX8_landingChance_24 (by decide) (fun hc => ?_) (fun hc => ?_)
    · have hf := o_t hc hf
      refine lv_ldc2 (v := (-1)) hx hb hown (hts (.constantLong RX8 138 (-1)) (by decide +kernel)) dX8_landingChance_35 ?_
      cases hf
      exact kR _ _ _ _ hP hD hS dX8_landingChance_38
    · have hf := o_f hc hf
      refine lv_aload_n hx hb dX8_landingChance_27 rfl (lv_at hl 1 rfl) ?_
      refine lv_iload_n hx hb dX8_landingChance_28 rfl (lv_at hl 3 rfl) ?_
      obtain ⟨r_1, hc, hf⟩ := ob1_some hf
      refine g_VZ (As := [.int x2]) (rest := []) (ws' := (w_X8_landingChance kc a0 a1 a2 a3 a4 a5 a6 a7 a8 a9 a10 a11 a12 a13 a14 a15 a16 a17 a18 a19 a20 a21 a22 a23 a24 a25 a26 a27 a28 a29 a30 a31 a32 a33 a34 a35 a36 textLength errorPlace undoable newest regions balloons letters loft start seed count turnCount day wind loft2 lost launchCount drawState now then_ follow land)) ⟨hx, hb, hml, hown, hts⟩ hN hK hP hD hS hA (c_X8_canForecast l D kc N a0 a1 a2 a3 a4 a5 a6 a7 a8 a9 a10 a11 a12 a13 a14 a15 a16 a17 a18 a19 a20 a21 a22 a23 a24 a25 textLength errorPlace undoable newest regions balloons letters loft start seed count turnCount x2 r_1 hc) (cwV 1 hts gX8_landingChance_X8_canForecast rfl rfl rfl (by decide +kernel) ⟨Nat.le_of_ble_eq_true rfl, Nat.le_of_ble_eq_true rfl⟩) [0, 1, 2] [3, 4, 5, 6, 7, 8] [6, 7, 8, 0, 1, 2, 3, 4, 5] (by exact ⟨rfl, rfl, by decide, rfl⟩) 0 8 rfl rfl rfl rfl hl.1 rfl (Nat.le_of_ble_eq_true rfl) dX8_landingChance_29 ⟨Nat.le_refl _, Nat.le_refl _⟩ (fun H locs hz hP hD hS => ?_)
      have hz_2 := hz
      refine lv_if_ne (tgt := 39) hx hb dX8_landingChance_32 (by decide) (fun hc => ?_) (fun hc => ?_)
      · have hf := o_f hc hf
        refine lv_aload_n hx hb dX8_landingChance_39 rfl (lv_at hl 1 rfl) ?_
        refine va_get (D := D) (ci := 8) (v := .ref a3) (C := RX8) (T := TX8) (N := 15) hx hb hts in_X8 hown hK hP 0 rfl rfl 2 (by decide) lk_23 (fun _ h9 => h9) rfl dX8_landingChance_40 ?_
        refine lv_aload_n hx hb dX8_landingChance_43 rfl (lv_at hl 1 rfl) ?_
        refine va_get (D := D) (ci := 8) (v := .ref a10) (C := RX8) (T := TX8) (N := 15) hx hb hts in_X8 hown hK hP 0 rfl rfl 13 (by decide) lk_66 (fun _ h9 => h9) rfl dX8_landingChance_44 ?_
        refine va_get (D := D) (ci := 5) (v := .ref a12) (C := RX5) (T := TX5) (N := 14) hx hb hts in_X5 hown hK hP 1 rfl rfl 0 (by decide) lk_103 (fun _ h9 => h9) rfl dX8_landingChance_47 ?_
        refine lv_aload_n hx hb dX8_landingChance_50 rfl (lv_at hl 1 rfl) ?_
        refine va_get (D := D) (ci := 8) (v := .ref a6) (C := RX8) (T := TX8) (N := 15) hx hb hts in_X8 hown hK hP 0 rfl rfl 5 (by decide) lk_44 (fun _ h9 => h9) rfl dX8_landingChance_51 ?_
        refine va_get (D := D) (ci := 6) (v := .int wind) (C := RX6) (T := TX6) (N := 15) hx hb hts in_X6 hown hK hP 3 rfl rfl 7 (by decide) lk_140 (fun _ h9 => h9) rfl dX8_landingChance_54 ?_
        refine lv_iload_n hx hb dX8_landingChance_57 rfl (lv_at hl 3 rfl) ?_
        refine lv_bipush (v := (-2)) hx hb dX8_landingChance_58 (by decide) ?_
        obtain ⟨now_3, then__4, hc, hf⟩ := ob2_some hf
        refine g_VV (As := [.ref a12, .int wind, .int x2, .int (-2)]) (rest := []) (ws' := (w_X8_landingChance kc a0 a1 a2 a3 a4 a5 a6 a7 a8 a9 a10 a11 a12 a13 a14 a15 a16 a17 a18 a19 a20 a21 a22 a23 a24 a25 a26 a27 a28 a29 a30 a31 a32 a33 a34 a35 a36 textLength errorPlace undoable newest regions balloons letters loft start seed count turnCount day wind loft2 lost launchCount drawState now_3 then__4 follow land)) ⟨hx, hb, hml, hown, hts⟩ hN hK hP hD hS hA (c_X0_lookAhead l D kc N a3 a35 a36 a12 a20 a21 a22 a23 a24 a25 now then_ count turnCount follow wind x2 (-2) now_3 then__4 hc) (cwV 4 hts gX8_landingChance_X0_lookAhead rfl rfl rfl (by decide +kernel) ⟨Nat.le_of_ble_eq_true rfl, Nat.le_of_ble_eq_true rfl⟩) [4, 5, 6, 2, 7] [0, 1, 3, 8] [0, 1, 7, 2, 4, 5, 6, 8, 3] (by exact ⟨rfl, rfl, by decide, rfl⟩) 4 0 rfl rfl rfl rfl hl.1 rfl (Nat.le_of_ble_eq_true rfl) dX8_landingChance_60 ⟨Nat.le_refl _, Nat.le_refl _⟩ (fun H locs hP hD hS => ?_)
        refine lv_aload_n hx hb dX8_landingChance_63 rfl (lv_at hl 1 rfl) ?_
        refine va_get (D := D) (ci := 8) (v := .ref a3) (C := RX8) (T := TX8) (N := 15) hx hb hts in_X8 hown hK hP 0 rfl rfl 2 (by decide) lk_23 (fun _ h9 => h9) rfl dX8_landingChance_64 ?_
        refine lv_aload_n hx hb dX8_landingChance_67 rfl (lv_at hl 1 rfl) ?_
        refine va_get (D := D) (ci := 8) (v := .ref a10) (C := RX8) (T := TX8) (N := 15) hx hb hts in_X8 hown hK hP 0 rfl rfl 13 (by decide) lk_66 (fun _ h9 => h9) rfl dX8_landingChance_68 ?_
        refine va_get (D := D) (ci := 5) (v := .ref a12) (C := RX5) (T := TX5) (N := 14) hx hb hts in_X5 hown hK hP 1 rfl rfl 0 (by decide) lk_103 (fun _ h9 => h9) rfl dX8_landingChance_71 ?_
        refine lv_iload_n hx hb dX8_landingChance_74 rfl (lv_at hl 2 rfl) ?_
        refine lv_bipush (v := (-2)) hx hb dX8_landingChance_75 (by decide) ?_
        refine lv_icmp_ne (tgt := 85) hx hb dX8_landingChance_77 (by decide) (fun hc => ?_) (fun hc => ?_)
        · have hf := o_f hc hf
          refine lv_iload_n hx hb dX8_landingChance_85 rfl (lv_at hl 2 rfl) ?_
          obtain ⟨r_5, hc, hf⟩ := ob1_some hf
          refine g_VL (As := [.ref a12, .int x1]) (rest := []) (ws' := (w_X8_landingChance kc a0 a1 a2 a3 a4 a5 a6 a7 a8 a9 a10 a11 a12 a13 a14 a15 a16 a17 a18 a19 a20 a21 a22 a23 a24 a25 a26 a27 a28 a29 a30 a31 a32 a33 a34 a35 a36 textLength errorPlace undoable newest regions balloons letters loft start seed count turnCount day wind loft2 lost launchCount drawState now_3 then__4 follow land)) ⟨hx, hb, hml, hown, hts⟩ hN hK hP hD hS hA (c_X0_comingDown l D kc N a12 a20 a21 a22 a23 a24 a25 a3 a35 a36 count turnCount now_3 land x1 r_5 hc) (cwV 2 hts gX8_landingChance_X0_comingDown rfl rfl rfl (by decide +kernel) ⟨Nat.le_of_ble_eq_true rfl, Nat.le_of_ble_eq_true rfl⟩) [2, 4, 5, 8] [0, 1, 3, 6, 7] [0, 1, 5, 2, 6, 7, 3, 4, 8] (by exact ⟨rfl, rfl, by decide, rfl⟩) 4 0 rfl rfl rfl rfl hl.1 rfl (Nat.le_of_ble_eq_true rfl) dX8_landingChance_86 ⟨Nat.le_refl _, Nat.le_refl _⟩ (fun H locs hP hD hS => ?_)
          cases hf
          exact kR _ _ _ _ hP hD hS dX8_landingChance_89
        · have hf := o_t hc hf
          refine lv_bipush (v := 8) hx hb dX8_landingChance_80 (by decide) ?_
          refine lv_goto (tgt := 86) hx hb dX8_landingChance_82 (by decide) ?_
          obtain ⟨r_6, hc, hf⟩ := ob1_some hf
          refine g_VL (As := [.ref a12, .int 8]) (rest := []) (ws' := (w_X8_landingChance kc a0 a1 a2 a3 a4 a5 a6 a7 a8 a9 a10 a11 a12 a13 a14 a15 a16 a17 a18 a19 a20 a21 a22 a23 a24 a25 a26 a27 a28 a29 a30 a31 a32 a33 a34 a35 a36 textLength errorPlace undoable newest regions balloons letters loft start seed count turnCount day wind loft2 lost launchCount drawState now_3 then__4 follow land)) ⟨hx, hb, hml, hown, hts⟩ hN hK hP hD hS hA (c_X0_comingDown l D kc N a12 a20 a21 a22 a23 a24 a25 a3 a35 a36 count turnCount now_3 land 8 r_6 hc) (cwV 2 hts gX8_landingChance_X0_comingDown rfl rfl rfl (by decide +kernel) ⟨Nat.le_of_ble_eq_true rfl, Nat.le_of_ble_eq_true rfl⟩) [2, 4, 5, 8] [0, 1, 3, 6, 7] [0, 1, 5, 2, 6, 7, 3, 4, 8] (by exact ⟨rfl, rfl, by decide, rfl⟩) 4 0 rfl rfl rfl rfl hl.1 rfl (Nat.le_of_ble_eq_true rfl) dX8_landingChance_86 ⟨Nat.le_refl _, Nat.le_refl _⟩ (fun H locs hP hD hS => ?_)
          cases hf
          exact kR _ _ _ _ hP hD hS dX8_landingChance_89
      · have hf := o_t hc hf
        refine lv_ldc2 (v := (-1)) hx hb hown (hts (.constantLong RX8 138 (-1)) (by decide +kernel)) dX8_landingChance_35 ?_
        cases hf
        exact kR _ _ _ _ hP hD hS dX8_landingChance_38
  have J17 : ∀ (_ : Unit), f_X8_landingChance_j17 N count wind now then_ follow land x1 x2  = some (r_, now', then_') → ∀ (H : Heap) (locs : List Loc) (ls : Array Slot), va_P D vwCl (w_X8_landingChance kc a0 a1 a2 a3 a4 a5 a6 a7 a8 a9 a10 a11 a12 a13 a14 a15 a16 a17 a18 a19 a20 a21 a22 a23 a24 a25 a26 a27 a28 a29 a30 a31 a32 a33 a34 a35 a36 textLength errorPlace undoable newest regions balloons letters loft start seed count turnCount day wind loft2 lost launchCount drawState now then_ follow land) H → va_D A (w_X8_landingChance kc a0 a1 a2 a3 a4 a5 a6 a7 a8 a9 a10 a11 a12 a13 a14 a15 a16 a17 a18 a19 a20 a21 a22 a23 a24 a25 a26 a27 a28 a29 a30 a31 a32 a33 a34 a35 a36 textLength errorPlace undoable newest regions balloons letters loft start seed count turnCount day wind loft2 lost launchCount drawState now then_ follow land) → va_S A s.heap H locs → lv_has ls 4 [(0, .ref a0), (1, .int x1), (2, .int x2)] → W p l e ({ frames := 3, cells := 0, slots := 0, locals := 90 }) s m (([.ref a0, .int x1, .int x2] : List Value).toArray) below meth c H locs 0 0 Q (F0 m 17 ls []) := by
    clear hf
    intro _ hf H locs ls hP hD hS hl
    unfold f_X8_landingChance_j17 at hf
    refine lv_iconst (v := 1) hx hb dX8_landingChance_17 (by decide) ?_
    refine lv_goto (tgt := 22) hx hb dX8_landingChance_18 (by decide) ?_
    exact J22 _ hf _ _ _ hP hD hS (lv_sub hl [0, 1, 2] rfl)
  unfold f_X8_landingChance at hf
  refine lv_iload_n hx hb dX8_landingChance_0 rfl (lv_at hl 1 rfl) ?_
  refine lv_bipush (v := (-2)) hx hb dX8_landingChance_1 (by decide) ?_
  refine lv_icmp_eq (tgt := 17) hx hb dX8_landingChance_3 (by decide) (fun hc => ?_) (fun hc => ?_)
  · have hf := o_t hc hf
    exact J17 () hf _ _ _ hP hD hS (lv_sub hl [0, 1, 2] rfl)
  · have hf := o_f hc hf
    refine lv_aload_n hx hb dX8_landingChance_6 rfl (lv_at hl 0 rfl) ?_
    refine va_get (D := D) (ci := 8) (v := .ref a10) (C := RX8) (T := TX8) (N := 15) hx hb hts in_X8 hown hK hP 0 rfl rfl 13 (by decide) lk_66 (fun _ h9 => h9) rfl dX8_landingChance_7 ?_
    refine lv_iload_n hx hb dX8_landingChance_10 rfl (lv_at hl 1 rfl) ?_
    obtain ⟨r_7, hc, hf⟩ := ob1_some hf
    refine g_VZ (As := [.int x1]) (rest := []) (ws' := (w_X8_landingChance kc a0 a1 a2 a3 a4 a5 a6 a7 a8 a9 a10 a11 a12 a13 a14 a15 a16 a17 a18 a19 a20 a21 a22 a23 a24 a25 a26 a27 a28 a29 a30 a31 a32 a33 a34 a35 a36 textLength errorPlace undoable newest regions balloons letters loft start seed count turnCount day wind loft2 lost launchCount drawState now then_ follow land)) ⟨hx, hb, hml, hown, hts⟩ hN hK hP hD hS hA (c_X5_hasRegion l D kc N a10 a12 a13 a14 a15 a16 a17 a18 a19 regions balloons letters loft start seed x1 r_7 hc) (cwV 1 hts gX8_landingChance_X5_hasRegion rfl rfl rfl (by decide +kernel) ⟨Nat.le_of_ble_eq_true rfl, Nat.le_of_ble_eq_true rfl⟩) [1] [0, 2, 3, 4, 5, 6, 7, 8] [0, 8, 1, 2, 3, 4, 5, 6, 7] (by exact ⟨rfl, rfl, by decide, rfl⟩) 1 5 rfl rfl rfl rfl hl.1 rfl (Nat.le_of_ble_eq_true rfl) dX8_landingChance_11 ⟨Nat.le_refl _, Nat.le_refl _⟩ (fun H locs hz hP hD hS => ?_)
    have hz_8 := hz
    refine lv_if_eq (tgt := 21) hx hb dX8_landingChance_14 (by decide) (fun hc => ?_) (fun hc => ?_)
    · have hf := o_t hc hf
      refine lv_iconst (v := 0) hx hb dX8_landingChance_21 (by decide) ?_
      exact J22 _ hf _ _ _ hP hD hS (lv_sub hl [0, 1, 2] rfl)
    · have hf := o_f hc hf
      exact J17 () hf _ _ _ hP hD hS (lv_sub hl [0, 1, 2] rfl)
abbrev w_X8_deliveryChance (kc : Nat → ClassId) (a0 a1 a2 a3 a4 a5 a6 a7 a8 a9 a10 a11 a12 a13 a14 a15 a16 a17 a18 a19 a20 a21 a22 a23 a24 a25 a26 a27 a28 a29 a30 a31 a32 a33 a34 a35 a36 : Nat) (textLength : Int32) (errorPlace : Int32) (undoable : Int32) (newest : Int32) (regions : Int32) (balloons : Int32) (letters : Int32) (loft : Int32) (start : Int32) (seed : Int32) (count : Int32) (turnCount : Int32) (day : Int32) (wind : Int32) (loft2 : Int32) (lost : Int32) (launchCount : Int32) (drawState : Int64) (now : Nat → Int64) (then_ : Nat → Int64) (follow : Nat → Int32) (land : Nat → Int32) (risk : Nat → Int32) : va_W := [(a0, .inr (8, [.ref a1, .ref a2, .ref a3, .ref a4, .ref a5, .ref a6, .ref a7, .ref a8, .ref a9, .int textLength, .int errorPlace, .int undoable, .int newest, .ref a10, .ref a11])), (a10, .inr (5, [.ref a12, .ref a13, .ref a14, .ref a15, .ref a16, .ref a17, .ref a18, .ref a19, .int regions, .int balloons, .int letters, .int loft, .int start, .int seed])), (a12, .inr (7, [.int count, .int turnCount, .ref a20, .ref a21, .ref a22, .ref a23, .ref a24, .ref a25])), (a6, .inr (6, [.ref a26, .ref a27, .ref a28, .ref a29, .ref a30, .ref a31, .int day, .int wind, .int loft2, .int lost, .ref a32, .ref a33, .ref a34, .int launchCount, .long drawState])), (a3, .inr (0, [.ref a35, .ref a36])), (a35, .inl (kc 2, 6, .inr (.inl now))), (a36, .inl (kc 2, 6, .inr (.inl then_))), (a22, .inl (kc 1, 36, .inl follow)), (a23, .inl (kc 1, 54, .inl land)), (a13, .inl (kc 1, 8, .inl risk))]
set_option maxHeartbeats 4000000 in
set_option maxRecDepth 100000 in
theorem c_X8_deliveryChance (l : Launch) (D : va_G) (kc : Nat → ClassId) (N : Nat) (a0 a1 a2 a3 a4 a5 a6 a7 a8 a9 a10 a11 a12 a13 a14 a15 a16 a17 a18 a19 a20 a21 a22 a23 a24 a25 a26 a27 a28 a29 a30 a31 a32 a33 a34 a35 a36 : Nat) (textLength : Int32) (errorPlace : Int32) (undoable : Int32) (newest : Int32) (regions : Int32) (balloons : Int32) (letters : Int32) (loft : Int32) (start : Int32) (seed : Int32) (count : Int32) (turnCount : Int32) (day : Int32) (wind : Int32) (loft2 : Int32) (lost : Int32) (launchCount : Int32) (drawState : Int64) (now : Nat → Int64) (then_ : Nat → Int64) (follow : Nat → Int32) (land : Nat → Int32) (risk : Nat → Int32) (x1 : Int32) (r_ : Int64) (now' : Nat → Int64) (then_' : Nat → Int64) (hf : f_X8_deliveryChance N regions count wind now then_ follow land risk x1 = some (r_, now', then_')) : ML l yX8_deliveryChance wsX8_deliveryChance ({ frames := 4, cells := 0, slots := 0, locals := 93 }) D kc [.ref a0, .int x1] (w_X8_deliveryChance kc a0 a1 a2 a3 a4 a5 a6 a7 a8 a9 a10 a11 a12 a13 a14 a15 a16 a17 a18 a19 a20 a21 a22 a23 a24 a25 a26 a27 a28 a29 a30 a31 a32 a33 a34 a35 a36 textLength errorPlace undoable newest regions balloons letters loft start seed count turnCount day wind loft2 lost launchCount drawState now then_ follow land risk) (w_X8_deliveryChance kc a0 a1 a2 a3 a4 a5 a6 a7 a8 a9 a10 a11 a12 a13 a14 a15 a16 a17 a18 a19 a20 a21 a22 a23 a24 a25 a26 a27 a28 a29 a30 a31 a32 a33 a34 a35 a36 textLength errorPlace undoable newest regions balloons letters loft start seed count turnCount day wind loft2 lost launchCount drawState now' then_' follow land risk) r_ := by
  refine gM_L (cc := cX8_deliveryChance) (maxL := 2) (by decide) rfl (Nat.le_of_ble_eq_true rfl) ?_
  intro p e s m below meth c A ls Q hx hb hml hown hts hN hK hP hD hA hl kR
  have hS : va_S A s.heap s.heap [] := va_S.rf
  have hl : lv_has ls 2 [(0, .ref a0), (1, .int x1)] := hl
  have in_X8 : ∀ w ∈ u_ws RX8 TX8 15, w ∈ wsX8_deliveryChance := by decide +kernel
  have lk_23 := hts (.fieldLink RX8 23 "BalloonMail" "chances" "LBalloonMail$Chances;") (by decide +kernel)
  have lk_66 := hts (.fieldLink RX8 66 "BalloonMail" "siege" "LBalloonMail$Siege;") (by decide +kernel)
  have in_X5 : ∀ w ∈ u_ws RX5 TX5 14, w ∈ wsX8_deliveryChance := by decide +kernel
  have lk_103 := hts (.fieldLink RX8 103 "BalloonMail$Siege" "winds" "LBalloonMail$Winds;") (by decide +kernel)
  have lk_44 := hts (.fieldLink RX8 44 "BalloonMail" "current" "LBalloonMail$State;") (by decide +kernel)
  have in_X6 : ∀ w ∈ u_ws RX6 TX6 15, w ∈ wsX8_deliveryChance := by decide +kernel
  have lk_140 := hts (.fieldLink RX8 140 "BalloonMail$State" "wind" "I") (by decide +kernel)
  unfold f_X8_deliveryChance at hf
  refine lv_aload_n hx hb dX8_deliveryChance_0 rfl (lv_at hl 0 rfl) ?_
  refine lv_iload_n hx hb dX8_deliveryChance_1 rfl (lv_at hl 1 rfl) ?_
  obtain ⟨r_1, hc, hf⟩ := ob1_some hf
  refine g_VZ (As := [.int x1]) (rest := []) (ws' := (w_X8_deliveryChance kc a0 a1 a2 a3 a4 a5 a6 a7 a8 a9 a10 a11 a12 a13 a14 a15 a16 a17 a18 a19 a20 a21 a22 a23 a24 a25 a26 a27 a28 a29 a30 a31 a32 a33 a34 a35 a36 textLength errorPlace undoable newest regions balloons letters loft start seed count turnCount day wind loft2 lost launchCount drawState now then_ follow land risk)) ⟨hx, hb, hml, hown, hts⟩ hN hK hP hD hS hA (c_X8_canForecast l D kc N a0 a1 a2 a3 a4 a5 a6 a7 a8 a9 a10 a11 a12 a13 a14 a15 a16 a17 a18 a19 a20 a21 a22 a23 a24 a25 textLength errorPlace undoable newest regions balloons letters loft start seed count turnCount x1 r_1 hc) (cwV 1 hts gX8_deliveryChance_X8_canForecast rfl rfl rfl (by decide +kernel) ⟨Nat.le_of_ble_eq_true rfl, Nat.le_of_ble_eq_true rfl⟩) [0, 1, 2] [3, 4, 5, 6, 7, 8, 9] [7, 8, 9, 0, 1, 2, 3, 4, 5, 6] (by exact ⟨rfl, rfl, by decide, rfl⟩) 0 8 rfl rfl rfl rfl hl.1 rfl (Nat.le_of_ble_eq_true rfl) dX8_deliveryChance_2 ⟨Nat.le_refl _, Nat.le_refl _⟩ (fun H locs hz hP hD hS => ?_)
  have hz_2 := hz
  refine lv_if_ne (tgt := 12) hx hb dX8_deliveryChance_5 (by decide) (fun hc => ?_) (fun hc => ?_)
  · have hf := o_f hc hf
    refine lv_aload_n hx hb dX8_deliveryChance_12 rfl (lv_at hl 0 rfl) ?_
    refine va_get (D := D) (ci := 8) (v := .ref a3) (C := RX8) (T := TX8) (N := 15) hx hb hts in_X8 hown hK hP 0 rfl rfl 2 (by decide) lk_23 (fun _ h9 => h9) rfl dX8_deliveryChance_13 ?_
    refine lv_aload_n hx hb dX8_deliveryChance_16 rfl (lv_at hl 0 rfl) ?_
    refine va_get (D := D) (ci := 8) (v := .ref a10) (C := RX8) (T := TX8) (N := 15) hx hb hts in_X8 hown hK hP 0 rfl rfl 13 (by decide) lk_66 (fun _ h9 => h9) rfl dX8_deliveryChance_17 ?_
    refine va_get (D := D) (ci := 5) (v := .ref a12) (C := RX5) (T := TX5) (N := 14) hx hb hts in_X5 hown hK hP 1 rfl rfl 0 (by decide) lk_103 (fun _ h9 => h9) rfl dX8_deliveryChance_20 ?_
    refine lv_aload_n hx hb dX8_deliveryChance_23 rfl (lv_at hl 0 rfl) ?_
    refine va_get (D := D) (ci := 8) (v := .ref a6) (C := RX8) (T := TX8) (N := 15) hx hb hts in_X8 hown hK hP 0 rfl rfl 5 (by decide) lk_44 (fun _ h9 => h9) rfl dX8_deliveryChance_24 ?_
    refine va_get (D := D) (ci := 6) (v := .int wind) (C := RX6) (T := TX6) (N := 15) hx hb hts in_X6 hown hK hP 3 rfl rfl 7 (by decide) lk_140 (fun _ h9 => h9) rfl dX8_deliveryChance_27 ?_
    refine lv_iload_n hx hb dX8_deliveryChance_30 rfl (lv_at hl 1 rfl) ?_
    refine lv_bipush (v := (-2)) hx hb dX8_deliveryChance_31 (by decide) ?_
    obtain ⟨now_3, then__4, hc, hf⟩ := ob2_some hf
    refine g_VV (As := [.ref a12, .int wind, .int x1, .int (-2)]) (rest := []) (ws' := (w_X8_deliveryChance kc a0 a1 a2 a3 a4 a5 a6 a7 a8 a9 a10 a11 a12 a13 a14 a15 a16 a17 a18 a19 a20 a21 a22 a23 a24 a25 a26 a27 a28 a29 a30 a31 a32 a33 a34 a35 a36 textLength errorPlace undoable newest regions balloons letters loft start seed count turnCount day wind loft2 lost launchCount drawState now_3 then__4 follow land risk)) ⟨hx, hb, hml, hown, hts⟩ hN hK hP hD hS hA (c_X0_lookAhead l D kc N a3 a35 a36 a12 a20 a21 a22 a23 a24 a25 now then_ count turnCount follow wind x1 (-2) now_3 then__4 hc) (cwV 4 hts gX8_deliveryChance_X0_lookAhead rfl rfl rfl (by decide +kernel) ⟨Nat.le_of_ble_eq_true rfl, Nat.le_of_ble_eq_true rfl⟩) [4, 5, 6, 2, 7] [0, 1, 3, 8, 9] [0, 1, 8, 2, 5, 6, 7, 9, 3, 4] (by exact ⟨rfl, rfl, by decide, rfl⟩) 4 0 rfl rfl rfl rfl hl.1 rfl (Nat.le_of_ble_eq_true rfl) dX8_deliveryChance_33 ⟨Nat.le_refl _, Nat.le_refl _⟩ (fun H locs hP hD hS => ?_)
    refine lv_aload_n hx hb dX8_deliveryChance_36 rfl (lv_at hl 0 rfl) ?_
    refine va_get (D := D) (ci := 8) (v := .ref a3) (C := RX8) (T := TX8) (N := 15) hx hb hts in_X8 hown hK hP 0 rfl rfl 2 (by decide) lk_23 (fun _ h9 => h9) rfl dX8_deliveryChance_37 ?_
    refine lv_aload_n hx hb dX8_deliveryChance_40 rfl (lv_at hl 0 rfl) ?_
    refine va_get (D := D) (ci := 8) (v := .ref a10) (C := RX8) (T := TX8) (N := 15) hx hb hts in_X8 hown hK hP 0 rfl rfl 13 (by decide) lk_66 (fun _ h9 => h9) rfl dX8_deliveryChance_41 ?_
    obtain ⟨r_5, hc, hf⟩ := ob1_some hf
    refine g_VL (As := [.ref a10]) (rest := []) (ws' := (w_X8_deliveryChance kc a0 a1 a2 a3 a4 a5 a6 a7 a8 a9 a10 a11 a12 a13 a14 a15 a16 a17 a18 a19 a20 a21 a22 a23 a24 a25 a26 a27 a28 a29 a30 a31 a32 a33 a34 a35 a36 textLength errorPlace undoable newest regions balloons letters loft start seed count turnCount day wind loft2 lost launchCount drawState now_3 then__4 follow land risk)) ⟨hx, hb, hml, hown, hts⟩ hN hK hP hD hS hA (c_X0_delivered l D kc N a10 a12 a13 a14 a15 a16 a17 a18 a19 a20 a21 a22 a23 a24 a25 a3 a35 a36 regions balloons letters loft start seed count turnCount now_3 land risk r_5 hc) (cwV 1 hts gX8_deliveryChance_X0_delivered rfl rfl rfl (by decide +kernel) ⟨Nat.le_of_ble_eq_true rfl, Nat.le_of_ble_eq_true rfl⟩) [1, 2, 4, 5, 8, 9] [0, 3, 6, 7] [0, 4, 5, 1, 6, 7, 2, 3, 8, 9] (by exact ⟨rfl, rfl, by decide, rfl⟩) 4 0 rfl rfl rfl rfl hl.1 rfl (Nat.le_of_ble_eq_true rfl) dX8_deliveryChance_44 ⟨Nat.le_refl _, Nat.le_refl _⟩ (fun H locs hP hD hS => ?_)
    cases hf
    exact kR _ _ _ _ hP hD hS dX8_deliveryChance_47
  · have hf := o_t hc hf
    refine lv_ldc2 (v := (-1)) hx hb hown (hts (.constantLong RX8 138 (-1)) (by decide +kernel)) dX8_deliveryChance_8 ?_
    cases hf
    exact kR _ _ _ _ hP hD hS dX8_deliveryChance_11
abbrev w_X8_answerChance (kc : Nat → ClassId) (a0 a1 a2 a3 a4 a5 a6 a7 a8 a9 a10 a11 a12 a13 a14 a15 a16 a17 a18 a19 a20 a21 a22 a23 a24 a25 a26 a27 a28 a29 a30 a31 a32 a33 a34 a35 a36 : Nat) (textLength : Int32) (errorPlace : Int32) (undoable : Int32) (newest : Int32) (regions : Int32) (balloons : Int32) (letters : Int32) (loft : Int32) (start : Int32) (seed : Int32) (count : Int32) (turnCount : Int32) (day : Int32) (wind : Int32) (loft2 : Int32) (lost : Int32) (launchCount : Int32) (drawState : Int64) (now : Nat → Int64) (then_ : Nat → Int64) (follow : Nat → Int32) (comeback : Nat → Int32) (land : Nat → Int32) (risk : Nat → Int32) : va_W := [(a0, .inr (8, [.ref a1, .ref a2, .ref a3, .ref a4, .ref a5, .ref a6, .ref a7, .ref a8, .ref a9, .int textLength, .int errorPlace, .int undoable, .int newest, .ref a10, .ref a11])), (a10, .inr (5, [.ref a12, .ref a13, .ref a14, .ref a15, .ref a16, .ref a17, .ref a18, .ref a19, .int regions, .int balloons, .int letters, .int loft, .int start, .int seed])), (a12, .inr (7, [.int count, .int turnCount, .ref a20, .ref a21, .ref a22, .ref a23, .ref a24, .ref a25])), (a6, .inr (6, [.ref a26, .ref a27, .ref a28, .ref a29, .ref a30, .ref a31, .int day, .int wind, .int loft2, .int lost, .ref a32, .ref a33, .ref a34, .int launchCount, .long drawState])), (a3, .inr (0, [.ref a35, .ref a36])), (a35, .inl (kc 2, 6, .inr (.inl now))), (a36, .inl (kc 2, 6, .inr (.inl then_))), (a22, .inl (kc 1, 36, .inl follow)), (a15, .inl (kc 1, 8, .inl comeback)), (a23, .inl (kc 1, 54, .inl land)), (a13, .inl (kc 1, 8, .inl risk))]
set_option maxHeartbeats 4000000 in
set_option maxRecDepth 100000 in
theorem c_X8_answerChance (l : Launch) (D : va_G) (kc : Nat → ClassId) (N : Nat) (a0 a1 a2 a3 a4 a5 a6 a7 a8 a9 a10 a11 a12 a13 a14 a15 a16 a17 a18 a19 a20 a21 a22 a23 a24 a25 a26 a27 a28 a29 a30 a31 a32 a33 a34 a35 a36 : Nat) (textLength : Int32) (errorPlace : Int32) (undoable : Int32) (newest : Int32) (regions : Int32) (balloons : Int32) (letters : Int32) (loft : Int32) (start : Int32) (seed : Int32) (count : Int32) (turnCount : Int32) (day : Int32) (wind : Int32) (loft2 : Int32) (lost : Int32) (launchCount : Int32) (drawState : Int64) (now : Nat → Int64) (then_ : Nat → Int64) (follow : Nat → Int32) (comeback : Nat → Int32) (land : Nat → Int32) (risk : Nat → Int32) (x1 : Int32) (x2 : Int32) (r_ : Int64) (now' : Nat → Int64) (then_' : Nat → Int64) (hf : f_X8_answerChance N regions count wind now then_ follow comeback land risk x1 x2 = some (r_, now', then_')) : ML l yX8_answerChance wsX8_answerChance ({ frames := 4, cells := 0, slots := 0, locals := 96 }) D kc [.ref a0, .int x1, .int x2] (w_X8_answerChance kc a0 a1 a2 a3 a4 a5 a6 a7 a8 a9 a10 a11 a12 a13 a14 a15 a16 a17 a18 a19 a20 a21 a22 a23 a24 a25 a26 a27 a28 a29 a30 a31 a32 a33 a34 a35 a36 textLength errorPlace undoable newest regions balloons letters loft start seed count turnCount day wind loft2 lost launchCount drawState now then_ follow comeback land risk) (w_X8_answerChance kc a0 a1 a2 a3 a4 a5 a6 a7 a8 a9 a10 a11 a12 a13 a14 a15 a16 a17 a18 a19 a20 a21 a22 a23 a24 a25 a26 a27 a28 a29 a30 a31 a32 a33 a34 a35 a36 textLength errorPlace undoable newest regions balloons letters loft start seed count turnCount day wind loft2 lost launchCount drawState now' then_' follow comeback land risk) r_ := by
  refine gM_L (cc := cX8_answerChance) (maxL := 3) (by decide) rfl (Nat.le_of_ble_eq_true rfl) ?_
  intro p e s m below meth c A ls Q hx hb hml hown hts hN hK hP hD hA hl kR
  have hS : va_S A s.heap s.heap [] := va_S.rf
  have hl : lv_has ls 3 [(0, .ref a0), (1, .int x1), (2, .int x2)] := hl
  have in_X8 : ∀ w ∈ u_ws RX8 TX8 15, w ∈ wsX8_answerChance := by decide +kernel
  have lk_23 := hts (.fieldLink RX8 23 "BalloonMail" "chances" "LBalloonMail$Chances;") (by decide +kernel)
  have lk_66 := hts (.fieldLink RX8 66 "BalloonMail" "siege" "LBalloonMail$Siege;") (by decide +kernel)
  have in_X5 : ∀ w ∈ u_ws RX5 TX5 14, w ∈ wsX8_answerChance := by decide +kernel
  have lk_103 := hts (.fieldLink RX8 103 "BalloonMail$Siege" "winds" "LBalloonMail$Winds;") (by decide +kernel)
  have lk_44 := hts (.fieldLink RX8 44 "BalloonMail" "current" "LBalloonMail$State;") (by decide +kernel)
  have in_X6 : ∀ w ∈ u_ws RX6 TX6 15, w ∈ wsX8_answerChance := by decide +kernel
  have lk_140 := hts (.fieldLink RX8 140 "BalloonMail$State" "wind" "I") (by decide +kernel)
  unfold f_X8_answerChance at hf
  refine lv_iload_n hx hb dX8_answerChance_0 rfl (lv_at hl 1 rfl) ?_
  obtain ⟨r_1, hc, hf⟩ := ob1_some hf
  refine g_SZ (As := [.int x1]) (rest := []) (ws' := (w_X8_answerChance kc a0 a1 a2 a3 a4 a5 a6 a7 a8 a9 a10 a11 a12 a13 a14 a15 a16 a17 a18 a19 a20 a21 a22 a23 a24 a25 a26 a27 a28 a29 a30 a31 a32 a33 a34 a35 a36 textLength errorPlace undoable newest regions balloons letters loft start seed count turnCount day wind loft2 lost launchCount drawState now then_ follow comeback land risk)) ⟨hx, hb, hml, hown, hts⟩ hN hK hP hD hS hA (c_X8_isCrew l D kc N x1 r_1 hc) (va_cwS 1 hts gX8_answerChance_X8_isCrew rfl rfl rfl (by decide +kernel) ⟨Nat.le_of_ble_eq_true rfl, Nat.le_of_ble_eq_true rfl⟩) [] [0, 1, 2, 3, 4, 5, 6, 7, 8, 9, 10] [0, 1, 2, 3, 4, 5, 6, 7, 8, 9, 10] (by exact ⟨rfl, rfl, by decide, rfl⟩) rfl hl.1 rfl (Nat.le_of_ble_eq_true rfl) dX8_answerChance_1 ⟨Nat.le_refl _, Nat.le_refl _⟩ (fun H locs hz hP hD hS => ?_)
  have hz_2 := hz
  refine lv_if_eq (tgt := 15) hx hb dX8_answerChance_4 (by decide) (fun hc => ?_) (fun hc => ?_)
  · have hf := o_t hc hf
    refine lv_ldc2 (v := (-1)) hx hb hown (hts (.constantLong RX8 138 (-1)) (by decide +kernel)) dX8_answerChance_15 ?_
    cases hf
    exact kR _ _ _ _ hP hD hS dX8_answerChance_18
  · have hf := o_f hc hf
    refine lv_aload_n hx hb dX8_answerChance_7 rfl (lv_at hl 0 rfl) ?_
    refine lv_iload_n hx hb dX8_answerChance_8 rfl (lv_at hl 2 rfl) ?_
    obtain ⟨r_3, hc, hf⟩ := ob1_some hf
    refine g_VZ (As := [.int x2]) (rest := []) (ws' := (w_X8_answerChance kc a0 a1 a2 a3 a4 a5 a6 a7 a8 a9 a10 a11 a12 a13 a14 a15 a16 a17 a18 a19 a20 a21 a22 a23 a24 a25 a26 a27 a28 a29 a30 a31 a32 a33 a34 a35 a36 textLength errorPlace undoable newest regions balloons letters loft start seed count turnCount day wind loft2 lost launchCount drawState now then_ follow comeback land risk)) ⟨hx, hb, hml, hown, hts⟩ hN hK hP hD hS hA (c_X8_canForecast l D kc N a0 a1 a2 a3 a4 a5 a6 a7 a8 a9 a10 a11 a12 a13 a14 a15 a16 a17 a18 a19 a20 a21 a22 a23 a24 a25 textLength errorPlace undoable newest regions balloons letters loft start seed count turnCount x2 r_3 hc) (cwV 1 hts gX8_answerChance_X8_canForecast rfl rfl rfl (by decide +kernel) ⟨Nat.le_of_ble_eq_true rfl, Nat.le_of_ble_eq_true rfl⟩) [0, 1, 2] [3, 4, 5, 6, 7, 8, 9, 10] [8, 9, 10, 0, 1, 2, 3, 4, 5, 6, 7] (by exact ⟨rfl, rfl, by decide, rfl⟩) 0 8 rfl rfl rfl rfl hl.1 rfl (Nat.le_of_ble_eq_true rfl) dX8_answerChance_9 ⟨Nat.le_refl _, Nat.le_refl _⟩ (fun H locs hz hP hD hS => ?_)
    have hz_4 := hz
    refine lv_if_ne (tgt := 19) hx hb dX8_answerChance_12 (by decide) (fun hc => ?_) (fun hc => ?_)
    · have hf := o_f hc hf
      refine lv_aload_n hx hb dX8_answerChance_19 rfl (lv_at hl 0 rfl) ?_
      refine va_get (D := D) (ci := 8) (v := .ref a3) (C := RX8) (T := TX8) (N := 15) hx hb hts in_X8 hown hK hP 0 rfl rfl 2 (by decide) lk_23 (fun _ h9 => h9) rfl dX8_answerChance_20 ?_
      refine lv_aload_n hx hb dX8_answerChance_23 rfl (lv_at hl 0 rfl) ?_
      refine va_get (D := D) (ci := 8) (v := .ref a10) (C := RX8) (T := TX8) (N := 15) hx hb hts in_X8 hown hK hP 0 rfl rfl 13 (by decide) lk_66 (fun _ h9 => h9) rfl dX8_answerChance_24 ?_
      refine va_get (D := D) (ci := 5) (v := .ref a12) (C := RX5) (T := TX5) (N := 14) hx hb hts in_X5 hown hK hP 1 rfl rfl 0 (by decide) lk_103 (fun _ h9 => h9) rfl dX8_answerChance_27 ?_
      refine lv_aload_n hx hb dX8_answerChance_30 rfl (lv_at hl 0 rfl) ?_
      refine va_get (D := D) (ci := 8) (v := .ref a6) (C := RX8) (T := TX8) (N := 15) hx hb hts in_X8 hown hK hP 0 rfl rfl 5 (by decide) lk_44 (fun _ h9 => h9) rfl dX8_answerChance_31 ?_
      refine va_get (D := D) (ci := 6) (v := .int wind) (C := RX6) (T := TX6) (N := 15) hx hb hts in_X6 hown hK hP 3 rfl rfl 7 (by decide) lk_140 (fun _ h9 => h9) rfl dX8_answerChance_34 ?_
      refine lv_iload_n hx hb dX8_answerChance_37 rfl (lv_at hl 2 rfl) ?_
      refine lv_bipush (v := (-2)) hx hb dX8_answerChance_38 (by decide) ?_
      obtain ⟨now_5, then__6, hc, hf⟩ := ob2_some hf
      refine g_VV (As := [.ref a12, .int wind, .int x2, .int (-2)]) (rest := []) (ws' := (w_X8_answerChance kc a0 a1 a2 a3 a4 a5 a6 a7 a8 a9 a10 a11 a12 a13 a14 a15 a16 a17 a18 a19 a20 a21 a22 a23 a24 a25 a26 a27 a28 a29 a30 a31 a32 a33 a34 a35 a36 textLength errorPlace undoable newest regions balloons letters loft start seed count turnCount day wind loft2 lost launchCount drawState now_5 then__6 follow comeback land risk)) ⟨hx, hb, hml, hown, hts⟩ hN hK hP hD hS hA (c_X0_lookAhead l D kc N a3 a35 a36 a12 a20 a21 a22 a23 a24 a25 now then_ count turnCount follow wind x2 (-2) now_5 then__6 hc) (cwV 4 hts gX8_answerChance_X0_lookAhead rfl rfl rfl (by decide +kernel) ⟨Nat.le_of_ble_eq_true rfl, Nat.le_of_ble_eq_true rfl⟩) [4, 5, 6, 2, 7] [0, 1, 3, 8, 9, 10] [0, 1, 9, 2, 6, 7, 8, 10, 3, 4, 5] (by exact ⟨rfl, rfl, by decide, rfl⟩) 4 0 rfl rfl rfl rfl hl.1 rfl (Nat.le_of_ble_eq_true rfl) dX8_answerChance_40 ⟨Nat.le_refl _, Nat.le_refl _⟩ (fun H locs hP hD hS => ?_)
      refine lv_aload_n hx hb dX8_answerChance_43 rfl (lv_at hl 0 rfl) ?_
      refine va_get (D := D) (ci := 8) (v := .ref a3) (C := RX8) (T := TX8) (N := 15) hx hb hts in_X8 hown hK hP 0 rfl rfl 2 (by decide) lk_23 (fun _ h9 => h9) rfl dX8_answerChance_44 ?_
      refine lv_aload_n hx hb dX8_answerChance_47 rfl (lv_at hl 0 rfl) ?_
      refine va_get (D := D) (ci := 8) (v := .ref a10) (C := RX8) (T := TX8) (N := 15) hx hb hts in_X8 hown hK hP 0 rfl rfl 13 (by decide) lk_66 (fun _ h9 => h9) rfl dX8_answerChance_48 ?_
      refine lv_iload_n hx hb dX8_answerChance_51 rfl (lv_at hl 1 rfl) ?_
      obtain ⟨r_7, hc, hf⟩ := ob1_some hf
      refine g_VL (As := [.ref a10, .int x1]) (rest := []) (ws' := (w_X8_answerChance kc a0 a1 a2 a3 a4 a5 a6 a7 a8 a9 a10 a11 a12 a13 a14 a15 a16 a17 a18 a19 a20 a21 a22 a23 a24 a25 a26 a27 a28 a29 a30 a31 a32 a33 a34 a35 a36 textLength errorPlace undoable newest regions balloons letters loft start seed count turnCount day wind loft2 lost launchCount drawState now_5 then__6 follow comeback land risk)) ⟨hx, hb, hml, hown, hts⟩ hN hK hP hD hS hA (c_X0_answered l D kc N a10 a12 a13 a14 a15 a16 a17 a18 a19 a20 a21 a22 a23 a24 a25 a3 a35 a36 regions balloons letters loft start seed comeback count turnCount now_5 land risk x1 r_7 hc) (cwV 2 hts gX8_answerChance_X0_answered rfl rfl rfl (by decide +kernel) ⟨Nat.le_of_ble_eq_true rfl, Nat.le_of_ble_eq_true rfl⟩) [1, 8, 2, 4, 5, 9, 10] [0, 3, 6, 7] [0, 4, 6, 1, 7, 8, 2, 3, 5, 9, 10] (by exact ⟨rfl, rfl, by decide, rfl⟩) 4 0 rfl rfl rfl rfl hl.1 rfl (Nat.le_of_ble_eq_true rfl) dX8_answerChance_52 ⟨Nat.le_refl _, Nat.le_refl _⟩ (fun H locs hP hD hS => ?_)
      cases hf
      exact kR _ _ _ _ hP hD hS dX8_answerChance_55
    · have hf := o_t hc hf
      refine lv_ldc2 (v := (-1)) hx hb hown (hts (.constantLong RX8 138 (-1)) (by decide +kernel)) dX8_answerChance_15 ?_
      cases hf
      exact kR _ _ _ _ hP hD hS dX8_answerChance_18
abbrev w_X8_answerPermille (kc : Nat → ClassId) (a0 a1 a2 a3 a4 a5 a6 a7 a8 a9 a10 a11 a12 a13 a14 a15 a16 a17 a18 a19 a20 a21 a22 a23 a24 a25 a26 a27 a28 a29 a30 a31 a32 a33 a34 a35 a36 : Nat) (textLength : Int32) (errorPlace : Int32) (undoable : Int32) (newest : Int32) (regions : Int32) (balloons : Int32) (letters : Int32) (loft : Int32) (start : Int32) (seed : Int32) (count : Int32) (turnCount : Int32) (day : Int32) (wind : Int32) (loft2 : Int32) (lost : Int32) (launchCount : Int32) (drawState : Int64) (now : Nat → Int64) (then_ : Nat → Int64) (follow : Nat → Int32) (comeback : Nat → Int32) (land : Nat → Int32) (risk : Nat → Int32) : va_W := [(a0, .inr (8, [.ref a1, .ref a2, .ref a3, .ref a4, .ref a5, .ref a6, .ref a7, .ref a8, .ref a9, .int textLength, .int errorPlace, .int undoable, .int newest, .ref a10, .ref a11])), (a10, .inr (5, [.ref a12, .ref a13, .ref a14, .ref a15, .ref a16, .ref a17, .ref a18, .ref a19, .int regions, .int balloons, .int letters, .int loft, .int start, .int seed])), (a12, .inr (7, [.int count, .int turnCount, .ref a20, .ref a21, .ref a22, .ref a23, .ref a24, .ref a25])), (a6, .inr (6, [.ref a26, .ref a27, .ref a28, .ref a29, .ref a30, .ref a31, .int day, .int wind, .int loft2, .int lost, .ref a32, .ref a33, .ref a34, .int launchCount, .long drawState])), (a3, .inr (0, [.ref a35, .ref a36])), (a35, .inl (kc 2, 6, .inr (.inl now))), (a36, .inl (kc 2, 6, .inr (.inl then_))), (a22, .inl (kc 1, 36, .inl follow)), (a15, .inl (kc 1, 8, .inl comeback)), (a23, .inl (kc 1, 54, .inl land)), (a13, .inl (kc 1, 8, .inl risk))]
set_option maxHeartbeats 4000000 in
set_option maxRecDepth 100000 in
theorem c_X8_answerPermille (l : Launch) (D : va_G) (kc : Nat → ClassId) (N : Nat) (a0 a1 a2 a3 a4 a5 a6 a7 a8 a9 a10 a11 a12 a13 a14 a15 a16 a17 a18 a19 a20 a21 a22 a23 a24 a25 a26 a27 a28 a29 a30 a31 a32 a33 a34 a35 a36 : Nat) (textLength : Int32) (errorPlace : Int32) (undoable : Int32) (newest : Int32) (regions : Int32) (balloons : Int32) (letters : Int32) (loft : Int32) (start : Int32) (seed : Int32) (count : Int32) (turnCount : Int32) (day : Int32) (wind : Int32) (loft2 : Int32) (lost : Int32) (launchCount : Int32) (drawState : Int64) (now : Nat → Int64) (then_ : Nat → Int64) (follow : Nat → Int32) (comeback : Nat → Int32) (land : Nat → Int32) (risk : Nat → Int32) (x1 : Int32) (x2 : Int32) (r_ : Int32) (now' : Nat → Int64) (then_' : Nat → Int64) (hf : f_X8_answerPermille N regions count wind now then_ follow comeback land risk x1 x2 = some (r_, now', then_')) : MI l yX8_answerPermille wsX8_answerPermille ({ frames := 4, cells := 0, slots := 0, locals := 96 }) D kc [.ref a0, .int x1, .int x2] (w_X8_answerPermille kc a0 a1 a2 a3 a4 a5 a6 a7 a8 a9 a10 a11 a12 a13 a14 a15 a16 a17 a18 a19 a20 a21 a22 a23 a24 a25 a26 a27 a28 a29 a30 a31 a32 a33 a34 a35 a36 textLength errorPlace undoable newest regions balloons letters loft start seed count turnCount day wind loft2 lost launchCount drawState now then_ follow comeback land risk) (w_X8_answerPermille kc a0 a1 a2 a3 a4 a5 a6 a7 a8 a9 a10 a11 a12 a13 a14 a15 a16 a17 a18 a19 a20 a21 a22 a23 a24 a25 a26 a27 a28 a29 a30 a31 a32 a33 a34 a35 a36 textLength errorPlace undoable newest regions balloons letters loft start seed count turnCount day wind loft2 lost launchCount drawState now' then_' follow comeback land risk) r_ := by
  refine gM_I (cc := cX8_answerPermille) (maxL := 6) (by decide) rfl (Nat.le_of_ble_eq_true rfl) ?_
  intro p e s m below meth c A ls Q hx hb hml hown hts hN hK hP hD hA hl kR
  have hS : va_S A s.heap s.heap [] := va_S.rf
  have hl : lv_has ls 6 [(0, .ref a0), (1, .int x1), (2, .int x2)] := hl
  have in_X8 : ∀ w ∈ u_ws RX8 TX8 15, w ∈ wsX8_answerPermille := by decide +kernel
  have lk_23 := hts (.fieldLink RX8 23 "BalloonMail" "chances" "LBalloonMail$Chances;") (by decide +kernel)
  have lk_66 := hts (.fieldLink RX8 66 "BalloonMail" "siege" "LBalloonMail$Siege;") (by decide +kernel)
  have in_X5 : ∀ w ∈ u_ws RX5 TX5 14, w ∈ wsX8_answerPermille := by decide +kernel
  have lk_103 := hts (.fieldLink RX8 103 "BalloonMail$Siege" "winds" "LBalloonMail$Winds;") (by decide +kernel)
  have lk_44 := hts (.fieldLink RX8 44 "BalloonMail" "current" "LBalloonMail$State;") (by decide +kernel)
  have in_X6 : ∀ w ∈ u_ws RX6 TX6 15, w ∈ wsX8_answerPermille := by decide +kernel
  have lk_140 := hts (.fieldLink RX8 140 "BalloonMail$State" "wind" "I") (by decide +kernel)
  unfold f_X8_answerPermille at hf
  refine lv_iload_n hx hb dX8_answerPermille_0 rfl (lv_at hl 1 rfl) ?_
  obtain ⟨r_1, hc, hf⟩ := ob1_some hf
  refine g_SZ (As := [.int x1]) (rest := []) (ws' := (w_X8_answerPermille kc a0 a1 a2 a3 a4 a5 a6 a7 a8 a9 a10 a11 a12 a13 a14 a15 a16 a17 a18 a19 a20 a21 a22 a23 a24 a25 a26 a27 a28 a29 a30 a31 a32 a33 a34 a35 a36 textLength errorPlace undoable newest regions balloons letters loft start seed count turnCount day wind loft2 lost launchCount drawState now then_ follow comeback land risk)) ⟨hx, hb, hml, hown, hts⟩ hN hK hP hD hS hA (c_X8_isCrew l D kc N x1 r_1 hc) (va_cwS 1 hts gX8_answerPermille_X8_isCrew rfl rfl rfl (by decide +kernel) ⟨Nat.le_of_ble_eq_true rfl, Nat.le_of_ble_eq_true rfl⟩) [] [0, 1, 2, 3, 4, 5, 6, 7, 8, 9, 10] [0, 1, 2, 3, 4, 5, 6, 7, 8, 9, 10] (by exact ⟨rfl, rfl, by decide, rfl⟩) rfl hl.1 rfl (Nat.le_of_ble_eq_true rfl) dX8_answerPermille_1 ⟨Nat.le_refl _, Nat.le_refl _⟩ (fun H locs hz hP hD hS => ?_)
  have hz_2 := hz
  refine lv_if_eq (tgt := 15) hx hb dX8_answerPermille_4 (by decide) (fun hc => ?_) (fun hc => ?_)
  · have hf := o_t hc hf
    refine lv_iconst (v := (-1)) hx hb dX8_answerPermille_15 (by decide) ?_
    cases hf
    exact kR _ _ _ _ hP hD hS dX8_answerPermille_16
  · have hf := o_f hc hf
    refine lv_aload_n hx hb dX8_answerPermille_7 rfl (lv_at hl 0 rfl) ?_
    refine lv_iload_n hx hb dX8_answerPermille_8 rfl (lv_at hl 2 rfl) ?_
    obtain ⟨r_3, hc, hf⟩ := ob1_some hf
    refine g_VZ (As := [.int x2]) (rest := []) (ws' := (w_X8_answerPermille kc a0 a1 a2 a3 a4 a5 a6 a7 a8 a9 a10 a11 a12 a13 a14 a15 a16 a17 a18 a19 a20 a21 a22 a23 a24 a25 a26 a27 a28 a29 a30 a31 a32 a33 a34 a35 a36 textLength errorPlace undoable newest regions balloons letters loft start seed count turnCount day wind loft2 lost launchCount drawState now then_ follow comeback land risk)) ⟨hx, hb, hml, hown, hts⟩ hN hK hP hD hS hA (c_X8_canForecast l D kc N a0 a1 a2 a3 a4 a5 a6 a7 a8 a9 a10 a11 a12 a13 a14 a15 a16 a17 a18 a19 a20 a21 a22 a23 a24 a25 textLength errorPlace undoable newest regions balloons letters loft start seed count turnCount x2 r_3 hc) (cwV 1 hts gX8_answerPermille_X8_canForecast rfl rfl rfl (by decide +kernel) ⟨Nat.le_of_ble_eq_true rfl, Nat.le_of_ble_eq_true rfl⟩) [0, 1, 2] [3, 4, 5, 6, 7, 8, 9, 10] [8, 9, 10, 0, 1, 2, 3, 4, 5, 6, 7] (by exact ⟨rfl, rfl, by decide, rfl⟩) 0 8 rfl rfl rfl rfl hl.1 rfl (Nat.le_of_ble_eq_true rfl) dX8_answerPermille_9 ⟨Nat.le_refl _, Nat.le_refl _⟩ (fun H locs hz hP hD hS => ?_)
    have hz_4 := hz
    refine lv_if_ne (tgt := 17) hx hb dX8_answerPermille_12 (by decide) (fun hc => ?_) (fun hc => ?_)
    · have hf := o_f hc hf
      refine lv_aload_n hx hb dX8_answerPermille_17 rfl (lv_at hl 0 rfl) ?_
      refine va_get (D := D) (ci := 8) (v := .ref a3) (C := RX8) (T := TX8) (N := 15) hx hb hts in_X8 hown hK hP 0 rfl rfl 2 (by decide) lk_23 (fun _ h9 => h9) rfl dX8_answerPermille_18 ?_
      refine lv_aload_n hx hb dX8_answerPermille_21 rfl (lv_at hl 0 rfl) ?_
      refine va_get (D := D) (ci := 8) (v := .ref a10) (C := RX8) (T := TX8) (N := 15) hx hb hts in_X8 hown hK hP 0 rfl rfl 13 (by decide) lk_66 (fun _ h9 => h9) rfl dX8_answerPermille_22 ?_
      refine va_get (D := D) (ci := 5) (v := .ref a12) (C := RX5) (T := TX5) (N := 14) hx hb hts in_X5 hown hK hP 1 rfl rfl 0 (by decide) lk_103 (fun _ h9 => h9) rfl dX8_answerPermille_25 ?_
      refine lv_aload_n hx hb dX8_answerPermille_28 rfl (lv_at hl 0 rfl) ?_
      refine va_get (D := D) (ci := 8) (v := .ref a6) (C := RX8) (T := TX8) (N := 15) hx hb hts in_X8 hown hK hP 0 rfl rfl 5 (by decide) lk_44 (fun _ h9 => h9) rfl dX8_answerPermille_29 ?_
      refine va_get (D := D) (ci := 6) (v := .int wind) (C := RX6) (T := TX6) (N := 15) hx hb hts in_X6 hown hK hP 3 rfl rfl 7 (by decide) lk_140 (fun _ h9 => h9) rfl dX8_answerPermille_32 ?_
      refine lv_iload_n hx hb dX8_answerPermille_35 rfl (lv_at hl 2 rfl) ?_
      refine lv_bipush (v := (-2)) hx hb dX8_answerPermille_36 (by decide) ?_
      obtain ⟨now_5, then__6, hc, hf⟩ := ob2_some hf
      refine g_VV (As := [.ref a12, .int wind, .int x2, .int (-2)]) (rest := []) (ws' := (w_X8_answerPermille kc a0 a1 a2 a3 a4 a5 a6 a7 a8 a9 a10 a11 a12 a13 a14 a15 a16 a17 a18 a19 a20 a21 a22 a23 a24 a25 a26 a27 a28 a29 a30 a31 a32 a33 a34 a35 a36 textLength errorPlace undoable newest regions balloons letters loft start seed count turnCount day wind loft2 lost launchCount drawState now_5 then__6 follow comeback land risk)) ⟨hx, hb, hml, hown, hts⟩ hN hK hP hD hS hA (c_X0_lookAhead l D kc N a3 a35 a36 a12 a20 a21 a22 a23 a24 a25 now then_ count turnCount follow wind x2 (-2) now_5 then__6 hc) (cwV 4 hts gX8_answerPermille_X0_lookAhead rfl rfl rfl (by decide +kernel) ⟨Nat.le_of_ble_eq_true rfl, Nat.le_of_ble_eq_true rfl⟩) [4, 5, 6, 2, 7] [0, 1, 3, 8, 9, 10] [0, 1, 9, 2, 6, 7, 8, 10, 3, 4, 5] (by exact ⟨rfl, rfl, by decide, rfl⟩) 4 0 rfl rfl rfl rfl hl.1 rfl (Nat.le_of_ble_eq_true rfl) dX8_answerPermille_38 ⟨Nat.le_refl _, Nat.le_refl _⟩ (fun H locs hP hD hS => ?_)
      refine lv_aload_n hx hb dX8_answerPermille_41 rfl (lv_at hl 0 rfl) ?_
      refine va_get (D := D) (ci := 8) (v := .ref a3) (C := RX8) (T := TX8) (N := 15) hx hb hts in_X8 hown hK hP 0 rfl rfl 2 (by decide) lk_23 (fun _ h9 => h9) rfl dX8_answerPermille_42 ?_
      refine lv_aload_n hx hb dX8_answerPermille_45 rfl (lv_at hl 0 rfl) ?_
      refine va_get (D := D) (ci := 8) (v := .ref a10) (C := RX8) (T := TX8) (N := 15) hx hb hts in_X8 hown hK hP 0 rfl rfl 13 (by decide) lk_66 (fun _ h9 => h9) rfl dX8_answerPermille_46 ?_
      refine lv_iload_n hx hb dX8_answerPermille_49 rfl (lv_at hl 1 rfl) ?_
      obtain ⟨r_7, hc, hf⟩ := ob1_some hf
      refine g_VL (As := [.ref a10, .int x1]) (rest := []) (ws' := (w_X8_answerPermille kc a0 a1 a2 a3 a4 a5 a6 a7 a8 a9 a10 a11 a12 a13 a14 a15 a16 a17 a18 a19 a20 a21 a22 a23 a24 a25 a26 a27 a28 a29 a30 a31 a32 a33 a34 a35 a36 textLength errorPlace undoable newest regions balloons letters loft start seed count turnCount day wind loft2 lost launchCount drawState now_5 then__6 follow comeback land risk)) ⟨hx, hb, hml, hown, hts⟩ hN hK hP hD hS hA (c_X0_answered l D kc N a10 a12 a13 a14 a15 a16 a17 a18 a19 a20 a21 a22 a23 a24 a25 a3 a35 a36 regions balloons letters loft start seed comeback count turnCount now_5 land risk x1 r_7 hc) (cwV 2 hts gX8_answerPermille_X0_answered rfl rfl rfl (by decide +kernel) ⟨Nat.le_of_ble_eq_true rfl, Nat.le_of_ble_eq_true rfl⟩) [1, 8, 2, 4, 5, 9, 10] [0, 3, 6, 7] [0, 4, 6, 1, 7, 8, 2, 3, 5, 9, 10] (by exact ⟨rfl, rfl, by decide, rfl⟩) 4 0 rfl rfl rfl rfl hl.1 rfl (Nat.le_of_ble_eq_true rfl) dX8_answerPermille_50 ⟨Nat.le_refl _, Nat.le_refl _⟩ (fun H locs hP hD hS => ?_)
      refine lv_ldc2 (v := 1000) hx hb hown (hts (.constantLong RX8 176 (1000)) (by decide +kernel)) dX8_answerPermille_53 ?_
      refine lv_lmul hx hb dX8_answerPermille_56 ?_
      refine lv_lstore_n (lv' := [(3, .long (r_7 * 1000)), (0, .ref a0), (1, .int x1), (2, .int x2)]) hx hb dX8_answerPermille_57 rfl hl (by decide) rfl (fun ls hl => ?_)
      refine lv_iload_n hx hb dX8_answerPermille_58 rfl (lv_at hl 3 rfl) ?_
      refine lv_iconst (v := 2) hx hb dX8_answerPermille_59 (by decide) ?_
      refine lv_iadd hx hb dX8_answerPermille_60 ?_
      refine lv_iload_n hx hb dX8_answerPermille_61 rfl (lv_at hl 2 rfl) ?_
      refine lv_iadd hx hb dX8_answerPermille_62 ?_
      refine lv_istore (lv' := [(5, .int ((x2 + 2) + x1)), (3, .long (r_7 * 1000)), (0, .ref a0), (1, .int x1), (2, .int x2)]) hx hb dX8_answerPermille_63 hl (by decide) rfl (fun ls hl => ?_)
      have L65 : ∀ (n : Nat) (y5_65 : Int32) (y3_65 : Int64) (y5_65o : Int32) (y3_65o : Int64), f_X8_answerPermille_65 N n y5_65 y3_65 = some (y5_65o, y3_65o) → (∀ (H : Heap) (locs : List Loc) (ls : Array Slot), va_P D vwCl (w_X8_answerPermille kc a0 a1 a2 a3 a4 a5 a6 a7 a8 a9 a10 a11 a12 a13 a14 a15 a16 a17 a18 a19 a20 a21 a22 a23 a24 a25 a26 a27 a28 a29 a30 a31 a32 a33 a34 a35 a36 textLength errorPlace undoable newest regions balloons letters loft start seed count turnCount day wind loft2 lost launchCount drawState now_5 then__6 follow comeback land risk) H → va_D A (w_X8_answerPermille kc a0 a1 a2 a3 a4 a5 a6 a7 a8 a9 a10 a11 a12 a13 a14 a15 a16 a17 a18 a19 a20 a21 a22 a23 a24 a25 a26 a27 a28 a29 a30 a31 a32 a33 a34 a35 a36 textLength errorPlace undoable newest regions balloons letters loft start seed count turnCount day wind loft2 lost launchCount drawState now_5 then__6 follow comeback land risk) → va_S A s.heap H locs → lv_has ls 6 [(0, .ref a0), (1, .int x1), (2, .int x2), (3, .long y3_65o), (5, .int y5_65o)] → W p l e ({ frames := 4, cells := 0, slots := 0, locals := 96 }) s m (([.ref a0, .int x1, .int x2] : List Value).toArray) below meth c H locs 0 0 Q (F0 m 82 ls [])) → ∀ (H : Heap) (locs : List Loc) (ls : Array Slot), va_P D vwCl (w_X8_answerPermille kc a0 a1 a2 a3 a4 a5 a6 a7 a8 a9 a10 a11 a12 a13 a14 a15 a16 a17 a18 a19 a20 a21 a22 a23 a24 a25 a26 a27 a28 a29 a30 a31 a32 a33 a34 a35 a36 textLength errorPlace undoable newest regions balloons letters loft start seed count turnCount day wind loft2 lost launchCount drawState now_5 then__6 follow comeback land risk) H → va_D A (w_X8_answerPermille kc a0 a1 a2 a3 a4 a5 a6 a7 a8 a9 a10 a11 a12 a13 a14 a15 a16 a17 a18 a19 a20 a21 a22 a23 a24 a25 a26 a27 a28 a29 a30 a31 a32 a33 a34 a35 a36 textLength errorPlace undoable newest regions balloons letters loft start seed count turnCount day wind loft2 lost launchCount drawState now_5 then__6 follow comeback land risk) → va_S A s.heap H locs → lv_has ls 6 [(0, .ref a0), (1, .int x1), (2, .int x2), (3, .long y3_65), (5, .int y5_65)] → W p l e ({ frames := 4, cells := 0, slots := 0, locals := 96 }) s m (([.ref a0, .int x1, .int x2] : List Value).toArray) below meth c H locs 0 0 Q (F0 m 65 ls []) := by
        intro n
        induction n with
        | zero => intro _ _ _ _ hf; rw [f_X8_answerPermille_65.eq_1] at hf; cases hf
        | succ n ih =>
          intro y5_65 y3_65 y5_65o y3_65o hf hk H locs ls hP hD hS hl
          rw [f_X8_answerPermille_65.eq_2] at hf
          refine lv_iload hx hb dX8_answerPermille_65 (lv_at hl 4 rfl) ?_
          refine lv_if_le (tgt := 82) hx hb dX8_answerPermille_67 (by decide) (fun hc => ?_) (fun hc => ?_)
          · have hf := o_t hc hf
            cases hf
            exact hk _ _ _ hP hD hS (lv_sub hl [0, 1, 2, 3, 4] rfl)
          · have hf := o_f hc hf
            refine lv_lload_n hx hb dX8_answerPermille_70 rfl (lv_at hl 3 rfl) ?_
            refine lv_ldc2 (v := 10) hx hb hown (hts (.constantLong RX8 178 (10)) (by decide +kernel)) dX8_answerPermille_71 ?_
            refine lv_ldiv hx hb dX8_answerPermille_74 (by decide) ?_
            refine lv_lstore_n (lv' := [(3, .long (y3_65 / 10)), (0, .ref a0), (1, .int x1), (2, .int x2), (5, .int y5_65)]) hx hb dX8_answerPermille_75 rfl hl (by decide) rfl (fun ls hl => ?_)
            refine lv_iinc (v := (y5_65 + (-1))) (lv' := [(5, .int (y5_65 + (-1))), (3, .long (y3_65 / 10)), (0, .ref a0), (1, .int x1), (2, .int x2)]) hx hb dX8_answerPermille_76 hl (k := 4) rfl (by rfl) (by decide) rfl (fun ls hl => ?_)
            refine lv_goto (tgt := 65) hx hb dX8_answerPermille_79 (by decide) ?_
            exact ih _ _ _ _ hf hk _ _ _ hP hD hS (lv_sub hl [2, 3, 4, 1, 0] rfl)
      obtain ⟨y5_65o, y3_65o, hc, hf⟩ := ob2_some hf
      refine L65 N _ _ _ _ hc (fun H locs ls hP hD hS hl => ?_) _ _ _ hP hD hS (lv_sub hl [2, 3, 4, 1, 0] rfl)
      refine lv_lload_n hx hb dX8_answerPermille_82 rfl (lv_at hl 3 rfl) ?_
      refine lv_l2i (v := (y3_65o : Int64).toInt32) hx hb dX8_answerPermille_83 rfl ?_
      cases hf
      exact kR _ _ _ _ hP hD hS dX8_answerPermille_84
    · have hf := o_t hc hf
      refine lv_iconst (v := (-1)) hx hb dX8_answerPermille_15 (by decide) ?_
      cases hf
      exact kR _ _ _ _ hP hD hS dX8_answerPermille_16
abbrev w_X8_bestDay (kc : Nat → ClassId) (a0 a1 a2 a3 a4 a5 a6 a7 a8 a9 a10 a11 a12 a13 a14 a15 a16 a17 a18 a19 a20 a21 a22 a23 a24 a25 a26 a27 a28 a29 a30 a31 a32 a33 a34 a35 a36 : Nat) (textLength : Int32) (errorPlace : Int32) (undoable : Int32) (newest : Int32) (regions : Int32) (balloons : Int32) (letters : Int32) (loft : Int32) (start : Int32) (seed : Int32) (count : Int32) (turnCount : Int32) (day : Int32) (wind : Int32) (loft2 : Int32) (lost : Int32) (launchCount : Int32) (drawState : Int64) (now : Nat → Int64) (comeback : Nat → Int32) (land : Nat → Int32) (risk : Nat → Int32) (then_ : Nat → Int64) (follow : Nat → Int32) : va_W := [(a0, .inr (8, [.ref a1, .ref a2, .ref a3, .ref a4, .ref a5, .ref a6, .ref a7, .ref a8, .ref a9, .int textLength, .int errorPlace, .int undoable, .int newest, .ref a10, .ref a11])), (a10, .inr (5, [.ref a12, .ref a13, .ref a14, .ref a15, .ref a16, .ref a17, .ref a18, .ref a19, .int regions, .int balloons, .int letters, .int loft, .int start, .int seed])), (a12, .inr (7, [.int count, .int turnCount, .ref a20, .ref a21, .ref a22, .ref a23, .ref a24, .ref a25])), (a6, .inr (6, [.ref a26, .ref a27, .ref a28, .ref a29, .ref a30, .ref a31, .int day, .int wind, .int loft2, .int lost, .ref a32, .ref a33, .ref a34, .int launchCount, .long drawState])), (a3, .inr (0, [.ref a35, .ref a36])), (a35, .inl (kc 2, 6, .inr (.inl now))), (a15, .inl (kc 1, 8, .inl comeback)), (a23, .inl (kc 1, 54, .inl land)), (a13, .inl (kc 1, 8, .inl risk)), (a36, .inl (kc 2, 6, .inr (.inl then_))), (a22, .inl (kc 1, 36, .inl follow))]
set_option maxHeartbeats 4000000 in
set_option maxRecDepth 100000 in
theorem c_X8_bestDay (l : Launch) (D : va_G) (kc : Nat → ClassId) (N : Nat) (a0 a1 a2 a3 a4 a5 a6 a7 a8 a9 a10 a11 a12 a13 a14 a15 a16 a17 a18 a19 a20 a21 a22 a23 a24 a25 a26 a27 a28 a29 a30 a31 a32 a33 a34 a35 a36 : Nat) (textLength : Int32) (errorPlace : Int32) (undoable : Int32) (newest : Int32) (regions : Int32) (balloons : Int32) (letters : Int32) (loft : Int32) (start : Int32) (seed : Int32) (count : Int32) (turnCount : Int32) (day : Int32) (wind : Int32) (loft2 : Int32) (lost : Int32) (launchCount : Int32) (drawState : Int64) (now : Nat → Int64) (comeback : Nat → Int32) (land : Nat → Int32) (risk : Nat → Int32) (then_ : Nat → Int64) (follow : Nat → Int32) (x1 : Int32) (r_ : Int32) (now' : Nat → Int64) (then_' : Nat → Int64) (hf : f_X8_bestDay N regions count wind now comeback land risk then_ follow x1 = some (r_, now', then_')) : MI l yX8_bestDay wsX8_bestDay ({ frames := 4, cells := 0, slots := 0, locals := 96 }) D kc [.ref a0, .int x1] (w_X8_bestDay kc a0 a1 a2 a3 a4 a5 a6 a7 a8 a9 a10 a11 a12 a13 a14 a15 a16 a17 a18 a19 a20 a21 a22 a23 a24 a25 a26 a27 a28 a29 a30 a31 a32 a33 a34 a35 a36 textLength errorPlace undoable newest regions balloons letters loft start seed count turnCount day wind loft2 lost launchCount drawState now comeback land risk then_ follow) (w_X8_bestDay kc a0 a1 a2 a3 a4 a5 a6 a7 a8 a9 a10 a11 a12 a13 a14 a15 a16 a17 a18 a19 a20 a21 a22 a23 a24 a25 a26 a27 a28 a29 a30 a31 a32 a33 a34 a35 a36 textLength errorPlace undoable newest regions balloons letters loft start seed count turnCount day wind loft2 lost launchCount drawState now' comeback land risk then_' follow) r_ := by
  refine gM_I (cc := cX8_bestDay) (maxL := 8) (by decide) rfl (Nat.le_of_ble_eq_true rfl) ?_
  intro p e s m below meth c A ls Q hx hb hml hown hts hN hK hP hD hA hl kR
  have hS : va_S A s.heap s.heap [] := va_S.rf
  have hl : lv_has ls 8 [(0, .ref a0), (1, .int x1)] := hl
  have in_X8 : ∀ w ∈ u_ws RX8 TX8 15, w ∈ wsX8_bestDay := by decide +kernel
  have lk_23 := hts (.fieldLink RX8 23 "BalloonMail" "chances" "LBalloonMail$Chances;") (by decide +kernel)
  have lk_44 := hts (.fieldLink RX8 44 "BalloonMail" "current" "LBalloonMail$State;") (by decide +kernel)
  have in_X6 : ∀ w ∈ u_ws RX6 TX6 15, w ∈ wsX8_bestDay := by decide +kernel
  have lk_140 := hts (.fieldLink RX8 140 "BalloonMail$State" "wind" "I") (by decide +kernel)
  have lk_66 := hts (.fieldLink RX8 66 "BalloonMail" "siege" "LBalloonMail$Siege;") (by decide +kernel)
  have in_X5 : ∀ w ∈ u_ws RX5 TX5 14, w ∈ wsX8_bestDay := by decide +kernel
  have lk_103 := hts (.fieldLink RX8 103 "BalloonMail$Siege" "winds" "LBalloonMail$Winds;") (by decide +kernel)
  unfold f_X8_bestDay at hf
  refine lv_iload_n hx hb dX8_bestDay_0 rfl (lv_at hl 1 rfl) ?_
  obtain ⟨r_1, hc, hf⟩ := ob1_some hf
  refine g_SZ (As := [.int x1]) (rest := []) (ws' := (w_X8_bestDay kc a0 a1 a2 a3 a4 a5 a6 a7 a8 a9 a10 a11 a12 a13 a14 a15 a16 a17 a18 a19 a20 a21 a22 a23 a24 a25 a26 a27 a28 a29 a30 a31 a32 a33 a34 a35 a36 textLength errorPlace undoable newest regions balloons letters loft start seed count turnCount day wind loft2 lost launchCount drawState now comeback land risk then_ follow)) ⟨hx, hb, hml, hown, hts⟩ hN hK hP hD hS hA (c_X8_isCrew l D kc N x1 r_1 hc) (va_cwS 1 hts gX8_bestDay_X8_isCrew rfl rfl rfl (by decide +kernel) ⟨Nat.le_of_ble_eq_true rfl, Nat.le_of_ble_eq_true rfl⟩) [] [0, 1, 2, 3, 4, 5, 6, 7, 8, 9, 10] [0, 1, 2, 3, 4, 5, 6, 7, 8, 9, 10] (by exact ⟨rfl, rfl, by decide, rfl⟩) rfl hl.1 rfl (Nat.le_of_ble_eq_true rfl) dX8_bestDay_1 ⟨Nat.le_refl _, Nat.le_refl _⟩ (fun H locs hz hP hD hS => ?_)
  have hz_2 := hz
  refine lv_if_eq (tgt := 15) hx hb dX8_bestDay_4 (by decide) (fun hc => ?_) (fun hc => ?_)
  · have hf := o_t hc hf
    refine lv_iconst (v := (-1)) hx hb dX8_bestDay_15 (by decide) ?_
    cases hf
    exact kR _ _ _ _ hP hD hS dX8_bestDay_16
  · have hf := o_f hc hf
    refine lv_aload_n hx hb dX8_bestDay_7 rfl (lv_at hl 0 rfl) ?_
    refine lv_iconst (v := 0) hx hb dX8_bestDay_8 (by decide) ?_
    obtain ⟨r_3, hc, hf⟩ := ob1_some hf
    refine g_VZ (As := [.int 0]) (rest := []) (ws' := (w_X8_bestDay kc a0 a1 a2 a3 a4 a5 a6 a7 a8 a9 a10 a11 a12 a13 a14 a15 a16 a17 a18 a19 a20 a21 a22 a23 a24 a25 a26 a27 a28 a29 a30 a31 a32 a33 a34 a35 a36 textLength errorPlace undoable newest regions balloons letters loft start seed count turnCount day wind loft2 lost launchCount drawState now comeback land risk then_ follow)) ⟨hx, hb, hml, hown, hts⟩ hN hK hP hD hS hA (c_X8_canForecast l D kc N a0 a1 a2 a3 a4 a5 a6 a7 a8 a9 a10 a11 a12 a13 a14 a15 a16 a17 a18 a19 a20 a21 a22 a23 a24 a25 textLength errorPlace undoable newest regions balloons letters loft start seed count turnCount 0 r_3 hc) (cwV 1 hts gX8_bestDay_X8_canForecast rfl rfl rfl (by decide +kernel) ⟨Nat.le_of_ble_eq_true rfl, Nat.le_of_ble_eq_true rfl⟩) [0, 1, 2] [3, 4, 5, 6, 7, 8, 9, 10] [8, 9, 10, 0, 1, 2, 3, 4, 5, 6, 7] (by exact ⟨rfl, rfl, by decide, rfl⟩) 0 8 rfl rfl rfl rfl hl.1 rfl (Nat.le_of_ble_eq_true rfl) dX8_bestDay_9 ⟨Nat.le_refl _, Nat.le_refl _⟩ (fun H locs hz hP hD hS => ?_)
    have hz_4 := hz
    refine lv_if_ne (tgt := 17) hx hb dX8_bestDay_12 (by decide) (fun hc => ?_) (fun hc => ?_)
    · have hf := o_f hc hf
      refine lv_iconst (v := 0) hx hb dX8_bestDay_17 (by decide) ?_
      refine lv_istore_n (lv' := [(2, .int 0), (0, .ref a0), (1, .int x1)]) hx hb dX8_bestDay_18 rfl hl (by decide) rfl (fun ls hl => ?_)
      refine lv_ldc2 (v := (-1)) hx hb hown (hts (.constantLong RX8 138 (-1)) (by decide +kernel)) dX8_bestDay_19 ?_
      refine lv_lstore_n (lv' := [(3, .long (-1)), (2, .int 0), (0, .ref a0), (1, .int x1)]) hx hb dX8_bestDay_22 rfl hl (by decide) rfl (fun ls hl => ?_)
      refine lv_aload_n hx hb dX8_bestDay_23 rfl (lv_at hl 2 rfl) ?_
      refine va_get (D := D) (ci := 8) (v := .ref a3) (C := RX8) (T := TX8) (N := 15) hx hb hts in_X8 hown hK hP 0 rfl rfl 2 (by decide) lk_23 (fun _ h9 => h9) rfl dX8_bestDay_24 ?_
      refine lv_aload_n hx hb dX8_bestDay_27 rfl (lv_at hl 2 rfl) ?_
      refine va_get (D := D) (ci := 8) (v := .ref a6) (C := RX8) (T := TX8) (N := 15) hx hb hts in_X8 hown hK hP 0 rfl rfl 5 (by decide) lk_44 (fun _ h9 => h9) rfl dX8_bestDay_28 ?_
      refine va_get (D := D) (ci := 6) (v := .int wind) (C := RX6) (T := TX6) (N := 15) hx hb hts in_X6 hown hK hP 3 rfl rfl 7 (by decide) lk_140 (fun _ h9 => h9) rfl dX8_bestDay_31 ?_
      obtain ⟨now_5, hc, hf⟩ := ob1_some hf
      refine g_VV (As := [.int wind]) (rest := []) (ws' := (w_X8_bestDay kc a0 a1 a2 a3 a4 a5 a6 a7 a8 a9 a10 a11 a12 a13 a14 a15 a16 a17 a18 a19 a20 a21 a22 a23 a24 a25 a26 a27 a28 a29 a30 a31 a32 a33 a34 a35 a36 textLength errorPlace undoable newest regions balloons letters loft start seed count turnCount day wind loft2 lost launchCount drawState now_5 comeback land risk then_ follow)) ⟨hx, hb, hml, hown, hts⟩ hN hK hP hD hS hA (c_X0_begin l D kc N a3 a35 a36 now wind now_5 hc) (cwV 1 hts gX8_bestDay_X0_begin rfl rfl rfl (by decide +kernel) ⟨Nat.le_of_ble_eq_true rfl, Nat.le_of_ble_eq_true rfl⟩) [4, 5] [0, 1, 2, 3, 6, 7, 8, 9, 10] [0, 1, 2, 3, 9, 10, 4, 5, 6, 7, 8] (by exact ⟨rfl, rfl, by decide, rfl⟩) 4 0 rfl rfl rfl rfl hl.1 rfl (Nat.le_of_ble_eq_true rfl) dX8_bestDay_34 ⟨Nat.le_refl _, Nat.le_refl _⟩ (fun H locs hP hD hS => ?_)
      refine lv_iconst (v := 0) hx hb dX8_bestDay_37 (by decide) ?_
      refine lv_istore (lv' := [(5, .int 0), (3, .long (-1)), (2, .int 0), (0, .ref a0), (1, .int x1)]) hx hb dX8_bestDay_38 hl (by decide) rfl (fun ls hl => ?_)
      have L40 : ∀ (n : Nat) (y5_40 : Int32) (y3_40 : Int64) (y2_40 : Int32) (now_40 : Nat → Int64) (then__40 : Nat → Int64) (y5_40o : Int32) (y3_40o : Int64) (y2_40o : Int32) (now_40o : Nat → Int64) (then__40o : Nat → Int64), f_X8_bestDay_40 N regions count comeback land risk follow x1 n y5_40 y3_40 y2_40 now_40 then__40 = some (y5_40o, y3_40o, y2_40o, now_40o, then__40o) → (∀ (H : Heap) (locs : List Loc) (ls : Array Slot), va_P D vwCl (w_X8_bestDay kc a0 a1 a2 a3 a4 a5 a6 a7 a8 a9 a10 a11 a12 a13 a14 a15 a16 a17 a18 a19 a20 a21 a22 a23 a24 a25 a26 a27 a28 a29 a30 a31 a32 a33 a34 a35 a36 textLength errorPlace undoable newest regions balloons letters loft start seed count turnCount day wind loft2 lost launchCount drawState now_40o comeback land risk then__40o follow) H → va_D A (w_X8_bestDay kc a0 a1 a2 a3 a4 a5 a6 a7 a8 a9 a10 a11 a12 a13 a14 a15 a16 a17 a18 a19 a20 a21 a22 a23 a24 a25 a26 a27 a28 a29 a30 a31 a32 a33 a34 a35 a36 textLength errorPlace undoable newest regions balloons letters loft start seed count turnCount day wind loft2 lost launchCount drawState now_40o comeback land risk then__40o follow) → va_S A s.heap H locs → lv_has ls 8 [(0, .ref a0), (1, .int x1), (2, .int y2_40o), (3, .long y3_40o), (5, .int y5_40o)] → W p l e ({ frames := 4, cells := 0, slots := 0, locals := 96 }) s m (([.ref a0, .int x1] : List Value).toArray) below meth c H locs 0 0 Q (F0 m 105 ls [])) → ∀ (H : Heap) (locs : List Loc) (ls : Array Slot), va_P D vwCl (w_X8_bestDay kc a0 a1 a2 a3 a4 a5 a6 a7 a8 a9 a10 a11 a12 a13 a14 a15 a16 a17 a18 a19 a20 a21 a22 a23 a24 a25 a26 a27 a28 a29 a30 a31 a32 a33 a34 a35 a36 textLength errorPlace undoable newest regions balloons letters loft start seed count turnCount day wind loft2 lost launchCount drawState now_40 comeback land risk then__40 follow) H → va_D A (w_X8_bestDay kc a0 a1 a2 a3 a4 a5 a6 a7 a8 a9 a10 a11 a12 a13 a14 a15 a16 a17 a18 a19 a20 a21 a22 a23 a24 a25 a26 a27 a28 a29 a30 a31 a32 a33 a34 a35 a36 textLength errorPlace undoable newest regions balloons letters loft start seed count turnCount day wind loft2 lost launchCount drawState now_40 comeback land risk then__40 follow) → va_S A s.heap H locs → lv_has ls 8 [(0, .ref a0), (1, .int x1), (2, .int y2_40), (3, .long y3_40), (5, .int y5_40)] → W p l e ({ frames := 4, cells := 0, slots := 0, locals := 96 }) s m (([.ref a0, .int x1] : List Value).toArray) below meth c H locs 0 0 Q (F0 m 40 ls []) := by
        intro n
        induction n with
        | zero => intro _ _ _ _ _ _ _ _ _ _ hf; rw [f_X8_bestDay_40.eq_1] at hf; cases hf
        | succ n ih =>
          intro y5_40 y3_40 y2_40 now_40 then__40 y5_40o y3_40o y2_40o now_40o then__40o hf hk H locs ls hP hD hS hl
          rw [f_X8_bestDay_40.eq_2] at hf
          refine lv_iload hx hb dX8_bestDay_40 (lv_at hl 4 rfl) ?_
          refine lv_bipush (v := 8) hx hb dX8_bestDay_42 (by decide) ?_
          refine lv_icmp_gt (tgt := 105) hx hb dX8_bestDay_44 (by decide) (fun hc => ?_) (fun hc => ?_)
          · have hf := o_t hc hf
            cases hf
            exact hk _ _ _ hP hD hS (lv_sub hl [0, 1, 2, 3, 4] rfl)
          · have hf := o_f hc hf
            refine lv_aload_n hx hb dX8_bestDay_47 rfl (lv_at hl 0 rfl) ?_
            refine va_get (D := D) (ci := 8) (v := .ref a3) (C := RX8) (T := TX8) (N := 15) hx hb hts in_X8 hown hK hP 0 rfl rfl 2 (by decide) lk_23 (fun _ h9 => h9) rfl dX8_bestDay_48 ?_
            refine lv_aload_n hx hb dX8_bestDay_51 rfl (lv_at hl 0 rfl) ?_
            refine va_get (D := D) (ci := 8) (v := .ref a10) (C := RX8) (T := TX8) (N := 15) hx hb hts in_X8 hown hK hP 0 rfl rfl 13 (by decide) lk_66 (fun _ h9 => h9) rfl dX8_bestDay_52 ?_
            refine lv_iload_n hx hb dX8_bestDay_55 rfl (lv_at hl 1 rfl) ?_
            obtain ⟨r_6, hc, hf⟩ := ob1_some hf
            refine g_VL (As := [.ref a10, .int x1]) (rest := []) (ws' := (w_X8_bestDay kc a0 a1 a2 a3 a4 a5 a6 a7 a8 a9 a10 a11 a12 a13 a14 a15 a16 a17 a18 a19 a20 a21 a22 a23 a24 a25 a26 a27 a28 a29 a30 a31 a32 a33 a34 a35 a36 textLength errorPlace undoable newest regions balloons letters loft start seed count turnCount day wind loft2 lost launchCount drawState now_40 comeback land risk then__40 follow)) ⟨hx, hb, hml, hown, hts⟩ hN hK hP hD hS hA (c_X0_answered l D kc N a10 a12 a13 a14 a15 a16 a17 a18 a19 a20 a21 a22 a23 a24 a25 a3 a35 a36 regions balloons letters loft start seed comeback count turnCount now_40 land risk x1 r_6 hc) (cwV 2 hts gX8_bestDay_X0_answered rfl rfl rfl (by decide +kernel) ⟨Nat.le_of_ble_eq_true rfl, Nat.le_of_ble_eq_true rfl⟩) [1, 6, 2, 4, 5, 7, 8] [0, 3, 9, 10] [0, 4, 6, 1, 7, 8, 5, 9, 10, 2, 3] (by exact ⟨rfl, rfl, by decide, rfl⟩) 4 0 rfl rfl rfl rfl hl.1 rfl (Nat.le_of_ble_eq_true rfl) dX8_bestDay_56 ⟨Nat.le_refl _, Nat.le_refl _⟩ (fun H locs hP hD hS => ?_)
            refine lv_bipush (v := 10) hx hb dX8_bestDay_59 (by decide) ?_
            refine lv_bipush (v := 8) hx hb dX8_bestDay_61 (by decide) ?_
            refine lv_iload hx hb dX8_bestDay_63 (lv_at hl 4 rfl) ?_
            refine lv_isub hx hb dX8_bestDay_65 ?_
            obtain ⟨r_7, hc, hf⟩ := ob1_some hf
            refine g_SL (As := [.int 10, .int (8 - y5_40)]) (rest := [.long r_6]) (ws' := (w_X8_bestDay kc a0 a1 a2 a3 a4 a5 a6 a7 a8 a9 a10 a11 a12 a13 a14 a15 a16 a17 a18 a19 a20 a21 a22 a23 a24 a25 a26 a27 a28 a29 a30 a31 a32 a33 a34 a35 a36 textLength errorPlace undoable newest regions balloons letters loft start seed count turnCount day wind loft2 lost launchCount drawState now_40 comeback land risk then__40 follow)) ⟨hx, hb, hml, hown, hts⟩ hN hK hP hD hS hA (c_X8_power l D kc N 10 (8 - y5_40) r_7 hc) (va_cwS 2 hts gX8_bestDay_X8_power rfl rfl rfl (by decide +kernel) ⟨Nat.le_of_ble_eq_true rfl, Nat.le_of_ble_eq_true rfl⟩) [] [0, 1, 2, 3, 4, 5, 6, 7, 8, 9, 10] [0, 1, 2, 3, 4, 5, 6, 7, 8, 9, 10] (by exact ⟨rfl, rfl, by decide, rfl⟩) rfl hl.1 rfl (Nat.le_of_ble_eq_true rfl) dX8_bestDay_66 ⟨Nat.le_refl _, Nat.le_refl _⟩ (fun H locs hP hD hS => ?_)
            refine lv_lmul hx hb dX8_bestDay_69 ?_
            refine lv_lstore (lv' := [(6, .long (r_6 * r_7)), (0, .ref a0), (1, .int x1), (2, .int y2_40), (3, .long y3_40), (5, .int y5_40)]) hx hb dX8_bestDay_70 hl (by decide) rfl (fun ls hl => ?_)
            refine lv_lload hx hb dX8_bestDay_72 (lv_at hl 0 rfl) ?_
            refine lv_lload_n hx hb dX8_bestDay_74 rfl (lv_at hl 4 rfl) ?_
            refine W.lcmp hx hb dX8_bestDay_75 ?_
            refine lv_if_le (tgt := 85) hx hb dX8_bestDay_76 (by decide) (fun hc => ?_) (fun hc => ?_)
            · have hf := o_t hc hf
              refine lv_aload_n hx hb dX8_bestDay_85 rfl (lv_at hl 1 rfl) ?_
              refine va_get (D := D) (ci := 8) (v := .ref a3) (C := RX8) (T := TX8) (N := 15) hx hb hts in_X8 hown hK hP 0 rfl rfl 2 (by decide) lk_23 (fun _ h9 => h9) rfl dX8_bestDay_86 ?_
              refine lv_aload_n hx hb dX8_bestDay_89 rfl (lv_at hl 1 rfl) ?_
              refine va_get (D := D) (ci := 8) (v := .ref a10) (C := RX8) (T := TX8) (N := 15) hx hb hts in_X8 hown hK hP 0 rfl rfl 13 (by decide) lk_66 (fun _ h9 => h9) rfl dX8_bestDay_90 ?_
              refine va_get (D := D) (ci := 5) (v := .ref a12) (C := RX5) (T := TX5) (N := 14) hx hb hts in_X5 hown hK hP 1 rfl rfl 0 (by decide) lk_103 (fun _ h9 => h9) rfl dX8_bestDay_93 ?_
              obtain ⟨then__8, now_9, hc, hf⟩ := ob2_some hf
              refine g_VV (As := [.ref a12]) (rest := []) (ws' := (w_X8_bestDay kc a0 a1 a2 a3 a4 a5 a6 a7 a8 a9 a10 a11 a12 a13 a14 a15 a16 a17 a18 a19 a20 a21 a22 a23 a24 a25 a26 a27 a28 a29 a30 a31 a32 a33 a34 a35 a36 textLength errorPlace undoable newest regions balloons letters loft start seed count turnCount day wind loft2 lost launchCount drawState now_9 comeback land risk then__8 follow)) ⟨hx, hb, hml, hown, hts⟩ hN hK hP hD hS hA (c_X0_passDay l D kc N a3 a35 a36 a12 a20 a21 a22 a23 a24 a25 then__40 count turnCount now_40 follow then__8 now_9 hc) (cwV 1 hts gX8_bestDay_X0_passDay rfl rfl rfl (by decide +kernel) ⟨Nat.le_of_ble_eq_true rfl, Nat.le_of_ble_eq_true rfl⟩) [4, 9, 2, 5, 10] [0, 1, 3, 6, 7, 8] [0, 1, 8, 2, 6, 9, 3, 4, 5, 7, 10] (by exact ⟨rfl, rfl, by decide, rfl⟩) 4 0 rfl rfl rfl rfl hl.1 rfl (Nat.le_of_ble_eq_true rfl) dX8_bestDay_96 ⟨Nat.le_refl _, Nat.le_refl _⟩ (fun H locs hP hD hS => ?_)
              refine lv_iinc (v := (y5_40 + 1)) (lv' := [(5, .int (y5_40 + 1)), (6, .long (r_6 * r_7)), (0, .ref a0), (1, .int x1), (2, .int y2_40), (3, .long y3_40)]) hx hb dX8_bestDay_99 hl (k := 5) rfl (by rfl) (by decide) rfl (fun ls hl => ?_)
              refine lv_goto (tgt := 40) hx hb dX8_bestDay_102 (by decide) ?_
              exact ih _ _ _ _ _ _ _ _ _ _ hf hk _ _ _ hP hD hS (lv_sub hl [2, 3, 4, 5, 0] rfl)
            · have hf := o_f hc hf
              refine lv_lload hx hb dX8_bestDay_79 (lv_at hl 0 rfl) ?_
              refine lv_lstore_n (lv' := [(3, .long (r_6 * r_7)), (6, .long (r_6 * r_7)), (0, .ref a0), (1, .int x1), (2, .int y2_40), (5, .int y5_40)]) hx hb dX8_bestDay_81 rfl hl (by decide) rfl (fun ls hl => ?_)
              refine lv_iload hx hb dX8_bestDay_82 (lv_at hl 5 rfl) ?_
              refine lv_istore_n (lv' := [(2, .int y5_40), (3, .long (r_6 * r_7)), (6, .long (r_6 * r_7)), (0, .ref a0), (1, .int x1), (5, .int y5_40)]) hx hb dX8_bestDay_84 rfl hl (by decide) rfl (fun ls hl => ?_)
              refine lv_aload_n hx hb dX8_bestDay_85 rfl (lv_at hl 3 rfl) ?_
              refine va_get (D := D) (ci := 8) (v := .ref a3) (C := RX8) (T := TX8) (N := 15) hx hb hts in_X8 hown hK hP 0 rfl rfl 2 (by decide) lk_23 (fun _ h9 => h9) rfl dX8_bestDay_86 ?_
              refine lv_aload_n hx hb dX8_bestDay_89 rfl (lv_at hl 3 rfl) ?_
              refine va_get (D := D) (ci := 8) (v := .ref a10) (C := RX8) (T := TX8) (N := 15) hx hb hts in_X8 hown hK hP 0 rfl rfl 13 (by decide) lk_66 (fun _ h9 => h9) rfl dX8_bestDay_90 ?_
              refine va_get (D := D) (ci := 5) (v := .ref a12) (C := RX5) (T := TX5) (N := 14) hx hb hts in_X5 hown hK hP 1 rfl rfl 0 (by decide) lk_103 (fun _ h9 => h9) rfl dX8_bestDay_93 ?_
              obtain ⟨then__10, now_11, hc, hf⟩ := ob2_some hf
              refine g_VV (As := [.ref a12]) (rest := []) (ws' := (w_X8_bestDay kc a0 a1 a2 a3 a4 a5 a6 a7 a8 a9 a10 a11 a12 a13 a14 a15 a16 a17 a18 a19 a20 a21 a22 a23 a24 a25 a26 a27 a28 a29 a30 a31 a32 a33 a34 a35 a36 textLength errorPlace undoable newest regions balloons letters loft start seed count turnCount day wind loft2 lost launchCount drawState now_11 comeback land risk then__10 follow)) ⟨hx, hb, hml, hown, hts⟩ hN hK hP hD hS hA (c_X0_passDay l D kc N a3 a35 a36 a12 a20 a21 a22 a23 a24 a25 then__40 count turnCount now_40 follow then__10 now_11 hc) (cwV 1 hts gX8_bestDay_X0_passDay rfl rfl rfl (by decide +kernel) ⟨Nat.le_of_ble_eq_true rfl, Nat.le_of_ble_eq_true rfl⟩) [4, 9, 2, 5, 10] [0, 1, 3, 6, 7, 8] [0, 1, 8, 2, 6, 9, 3, 4, 5, 7, 10] (by exact ⟨rfl, rfl, by decide, rfl⟩) 4 0 rfl rfl rfl rfl hl.1 rfl (Nat.le_of_ble_eq_true rfl) dX8_bestDay_96 ⟨Nat.le_refl _, Nat.le_refl _⟩ (fun H locs hP hD hS => ?_)
              refine lv_iinc (v := (y5_40 + 1)) (lv' := [(5, .int (y5_40 + 1)), (2, .int y5_40), (3, .long (r_6 * r_7)), (6, .long (r_6 * r_7)), (0, .ref a0), (1, .int x1)]) hx hb dX8_bestDay_99 hl (k := 5) rfl (by rfl) (by decide) rfl (fun ls hl => ?_)
              refine lv_goto (tgt := 40) hx hb dX8_bestDay_102 (by decide) ?_
              exact ih _ _ _ _ _ _ _ _ _ _ hf hk _ _ _ hP hD hS (lv_sub hl [4, 5, 1, 2, 0] rfl)
      obtain ⟨y5_40o, y3_40o, y2_40o, now_40o, then__40o, hc, hf⟩ := ob5_some hf
      refine L40 N _ _ _ _ _ _ _ _ _ _ hc (fun H locs ls hP hD hS hl => ?_) _ _ _ hP hD hS (lv_sub hl [3, 4, 2, 1, 0] rfl)
      refine lv_iload_n hx hb dX8_bestDay_105 rfl (lv_at hl 2 rfl) ?_
      cases hf
      exact kR _ _ _ _ hP hD hS dX8_bestDay_106
    · have hf := o_t hc hf
      refine lv_iconst (v := (-1)) hx hb dX8_bestDay_15 (by decide) ?_
      cases hf
      exact kR _ _ _ _ hP hD hS dX8_bestDay_16
abbrev w_X8_assignmentTotal (kc : Nat → ClassId) (a0 a1 a2 a3 a4 a5 a6 a7 a8 a9 a10 a11 a12 a13 a14 a15 a16 a17 a18 a19 a20 a21 a22 a23 a24 a25 a26 a27 a28 a29 a30 a31 a32 a33 a34 a35 a36 a37 a38 a39 : Nat) (textLength : Int32) (errorPlace : Int32) (undoable : Int32) (newest : Int32) (regions : Int32) (balloons : Int32) (letters : Int32) (loft : Int32) (start : Int32) (seed : Int32) (count : Int32) (turnCount : Int32) (day : Int32) (wind : Int32) (loft2 : Int32) (lost : Int32) (launchCount : Int32) (drawState : Int64) (balloonState : Nat → Int32) (planned : Int32) (plannedWind : Int32) (plannedReady : Int32) (now : Nat → Int64) (pigeons : Nat → Int32) (capacity : Nat → Int32) (comeback : Nat → Int32) (land : Nat → Int32) (risk : Nat → Int32) (gain : Nat → Int64) (then_ : Nat → Int64) (follow : Nat → Int32) (best : Nat → Int64) (chosen : Nat → Int32) : va_W := [(a0, .inr (8, [.ref a1, .ref a2, .ref a3, .ref a4, .ref a5, .ref a6, .ref a7, .ref a8, .ref a9, .int textLength, .int errorPlace, .int undoable, .int newest, .ref a10, .ref a11])), (a10, .inr (5, [.ref a12, .ref a13, .ref a14, .ref a15, .ref a16, .ref a17, .ref a18, .ref a19, .int regions, .int balloons, .int letters, .int loft, .int start, .int seed])), (a12, .inr (7, [.int count, .int turnCount, .ref a20, .ref a21, .ref a22, .ref a23, .ref a24, .ref a25])), (a6, .inr (6, [.ref a26, .ref a27, .ref a28, .ref a29, .ref a30, .ref a31, .int day, .int wind, .int loft2, .int lost, .ref a32, .ref a33, .ref a34, .int launchCount, .long drawState])), (a27, .inl (kc 1, 10, .inl balloonState)), (a4, .inr (3, [.ref a35, .ref a36, .ref a37, .int planned, .int plannedWind, .int plannedReady])), (a3, .inr (0, [.ref a38, .ref a39])), (a38, .inl (kc 2, 6, .inr (.inl now))), (a17, .inl (kc 1, 10, .inl pigeons)), (a16, .inl (kc 1, 10, .inl capacity)), (a15, .inl (kc 1, 8, .inl comeback)), (a23, .inl (kc 1, 54, .inl land)), (a13, .inl (kc 1, 8, .inl risk)), (a35, .inl (kc 2, 90, .inr (.inl gain))), (a39, .inl (kc 2, 6, .inr (.inl then_))), (a22, .inl (kc 1, 36, .inl follow)), (a36, .inl (kc 2, 5632, .inr (.inl best))), (a37, .inl (kc 1, 10, .inl chosen))]
set_option maxHeartbeats 4000000 in
set_option maxRecDepth 100000 in
theorem c_X8_assignmentTotal (l : Launch) (D : va_G) (kc : Nat → ClassId) (N : Nat) (a0 a1 a2 a3 a4 a5 a6 a7 a8 a9 a10 a11 a12 a13 a14 a15 a16 a17 a18 a19 a20 a21 a22 a23 a24 a25 a26 a27 a28 a29 a30 a31 a32 a33 a34 a35 a36 a37 a38 a39 : Nat) (textLength : Int32) (errorPlace : Int32) (undoable : Int32) (newest : Int32) (regions : Int32) (balloons : Int32) (letters : Int32) (loft : Int32) (start : Int32) (seed : Int32) (count : Int32) (turnCount : Int32) (day : Int32) (wind : Int32) (loft2 : Int32) (lost : Int32) (launchCount : Int32) (drawState : Int64) (balloonState : Nat → Int32) (planned : Int32) (plannedWind : Int32) (plannedReady : Int32) (now : Nat → Int64) (pigeons : Nat → Int32) (capacity : Nat → Int32) (comeback : Nat → Int32) (land : Nat → Int32) (risk : Nat → Int32) (gain : Nat → Int64) (then_ : Nat → Int64) (follow : Nat → Int32) (best : Nat → Int64) (chosen : Nat → Int32) (r_ : Int64) (planned' : Int32) (plannedWind' : Int32) (plannedReady' : Int32) (now' : Nat → Int64) (gain' : Nat → Int64) (then_' : Nat → Int64) (best' : Nat → Int64) (chosen' : Nat → Int32) (hf : f_X8_assignmentTotal N regions balloons count wind balloonState planned plannedWind plannedReady now pigeons capacity comeback land risk gain then_ follow best chosen = some (r_, planned', plannedWind', plannedReady', now', gain', then_', best', chosen')) : ML l yX8_assignmentTotal wsX8_assignmentTotal ({ frames := 6, cells := 0, slots := 0, locals := 148 }) D kc [.ref a0] (w_X8_assignmentTotal kc a0 a1 a2 a3 a4 a5 a6 a7 a8 a9 a10 a11 a12 a13 a14 a15 a16 a17 a18 a19 a20 a21 a22 a23 a24 a25 a26 a27 a28 a29 a30 a31 a32 a33 a34 a35 a36 a37 a38 a39 textLength errorPlace undoable newest regions balloons letters loft start seed count turnCount day wind loft2 lost launchCount drawState balloonState planned plannedWind plannedReady now pigeons capacity comeback land risk gain then_ follow best chosen) (w_X8_assignmentTotal kc a0 a1 a2 a3 a4 a5 a6 a7 a8 a9 a10 a11 a12 a13 a14 a15 a16 a17 a18 a19 a20 a21 a22 a23 a24 a25 a26 a27 a28 a29 a30 a31 a32 a33 a34 a35 a36 a37 a38 a39 textLength errorPlace undoable newest regions balloons letters loft start seed count turnCount day wind loft2 lost launchCount drawState balloonState planned' plannedWind' plannedReady' now' pigeons capacity comeback land risk gain' then_' follow best' chosen') r_ := by
  refine gM_L (cc := cX8_assignmentTotal) (maxL := 1) (by decide) rfl (Nat.le_of_ble_eq_true rfl) ?_
  intro p e s m below meth c A ls Q hx hb hml hown hts hN hK hP hD hA hl kR
  have hS : va_S A s.heap s.heap [] := va_S.rf
  have hl : lv_has ls 1 [(0, .ref a0)] := hl
  have in_X8 : ∀ w ∈ u_ws RX8 TX8 15, w ∈ wsX8_assignmentTotal := by decide +kernel
  have lk_66 := hts (.fieldLink RX8 66 "BalloonMail" "siege" "LBalloonMail$Siege;") (by decide +kernel)
  have in_X5 : ∀ w ∈ u_ws RX5 TX5 14, w ∈ wsX8_assignmentTotal := by decide +kernel
  have lk_103 := hts (.fieldLink RX8 103 "BalloonMail$Siege" "winds" "LBalloonMail$Winds;") (by decide +kernel)
  have in_X7 : ∀ w ∈ u_ws RX7 TX7 8, w ∈ wsX8_assignmentTotal := by decide +kernel
  have lk_107 := hts (.fieldLink RX8 107 "BalloonMail$Winds" "count" "I") (by decide +kernel)
  have lk_30 := hts (.fieldLink RX8 30 "BalloonMail" "planner" "LBalloonMail$Planner;") (by decide +kernel)
  have lk_44 := hts (.fieldLink RX8 44 "BalloonMail" "current" "LBalloonMail$State;") (by decide +kernel)
  have in_X6 : ∀ w ∈ u_ws RX6 TX6 15, w ∈ wsX8_assignmentTotal := by decide +kernel
  have lk_140 := hts (.fieldLink RX8 140 "BalloonMail$State" "wind" "I") (by decide +kernel)
  have lk_23 := hts (.fieldLink RX8 23 "BalloonMail" "chances" "LBalloonMail$Chances;") (by decide +kernel)
  unfold f_X8_assignmentTotal at hf
  refine lv_aload_n hx hb dX8_assignmentTotal_0 rfl (lv_at hl 0 rfl) ?_
  refine va_get (D := D) (ci := 8) (v := .ref a10) (C := RX8) (T := TX8) (N := 15) hx hb hts in_X8 hown hK hP 0 rfl rfl 13 (by decide) lk_66 (fun _ h9 => h9) rfl dX8_assignmentTotal_1 ?_
  refine va_get (D := D) (ci := 5) (v := .ref a12) (C := RX5) (T := TX5) (N := 14) hx hb hts in_X5 hown hK hP 1 rfl rfl 0 (by decide) lk_103 (fun _ h9 => h9) rfl dX8_assignmentTotal_4 ?_
  refine va_get (D := D) (ci := 7) (v := .int count) (C := RX7) (T := TX7) (N := 8) hx hb hts in_X7 hown hK hP 2 rfl rfl 0 (by decide) lk_107 (fun _ h9 => h9) rfl dX8_assignmentTotal_7 ?_
  refine lv_if_ne (tgt := 17) hx hb dX8_assignmentTotal_10 (by decide) (fun hc => ?_) (fun hc => ?_)
  · have hf := o_f hc hf
    refine lv_aload_n hx hb dX8_assignmentTotal_17 rfl (lv_at hl 0 rfl) ?_
    refine va_get (D := D) (ci := 8) (v := .ref a4) (C := RX8) (T := TX8) (N := 15) hx hb hts in_X8 hown hK hP 0 rfl rfl 3 (by decide) lk_30 (fun _ h9 => h9) rfl dX8_assignmentTotal_18 ?_
    refine lv_aload_n hx hb dX8_assignmentTotal_21 rfl (lv_at hl 0 rfl) ?_
    refine va_get (D := D) (ci := 8) (v := .ref a10) (C := RX8) (T := TX8) (N := 15) hx hb hts in_X8 hown hK hP 0 rfl rfl 13 (by decide) lk_66 (fun _ h9 => h9) rfl dX8_assignmentTotal_22 ?_
    refine lv_aload_n hx hb dX8_assignmentTotal_25 rfl (lv_at hl 0 rfl) ?_
    refine va_get (D := D) (ci := 8) (v := .ref a6) (C := RX8) (T := TX8) (N := 15) hx hb hts in_X8 hown hK hP 0 rfl rfl 5 (by decide) lk_44 (fun _ h9 => h9) rfl dX8_assignmentTotal_26 ?_
    refine va_get (D := D) (ci := 6) (v := .int wind) (C := RX6) (T := TX6) (N := 15) hx hb hts in_X6 hown hK hP 3 rfl rfl 7 (by decide) lk_140 (fun _ h9 => h9) rfl dX8_assignmentTotal_29 ?_
    refine lv_aload_n hx hb dX8_assignmentTotal_32 rfl (lv_at hl 0 rfl) ?_
    refine va_get (D := D) (ci := 8) (v := .ref a6) (C := RX8) (T := TX8) (N := 15) hx hb hts in_X8 hown hK hP 0 rfl rfl 5 (by decide) lk_44 (fun _ h9 => h9) rfl dX8_assignmentTotal_33 ?_
    refine lv_aload_n hx hb dX8_assignmentTotal_36 rfl (lv_at hl 0 rfl) ?_
    refine va_get (D := D) (ci := 8) (v := .ref a10) (C := RX8) (T := TX8) (N := 15) hx hb hts in_X8 hown hK hP 0 rfl rfl 13 (by decide) lk_66 (fun _ h9 => h9) rfl dX8_assignmentTotal_37 ?_
    obtain ⟨r_1, hc, hf⟩ := ob1_some hf
    refine g_VI (As := [.ref a10]) (rest := [.int wind, .ref a10, .ref a4]) (ws' := (w_X8_assignmentTotal kc a0 a1 a2 a3 a4 a5 a6 a7 a8 a9 a10 a11 a12 a13 a14 a15 a16 a17 a18 a19 a20 a21 a22 a23 a24 a25 a26 a27 a28 a29 a30 a31 a32 a33 a34 a35 a36 a37 a38 a39 textLength errorPlace undoable newest regions balloons letters loft start seed count turnCount day wind loft2 lost launchCount drawState balloonState planned plannedWind plannedReady now pigeons capacity comeback land risk gain then_ follow best chosen)) ⟨hx, hb, hml, hown, hts⟩ hN hK hP hD hS hA (c_X6_readyBalloons l D kc N a10 a12 a13 a14 a15 a16 a17 a18 a19 a6 a26 a27 a28 a29 a30 a31 a32 a33 a34 regions balloons letters loft start seed day wind loft2 lost launchCount drawState balloonState r_1 hc) (cwV 1 hts gX8_assignmentTotal_X6_readyBalloons rfl rfl rfl (by decide +kernel) ⟨Nat.le_of_ble_eq_true rfl, Nat.le_of_ble_eq_true rfl⟩) [1, 3, 4] [0, 2, 5, 6, 7, 8, 9, 10, 11, 12, 13, 14, 15, 16, 17] [0, 15, 1, 16, 17, 2, 3, 4, 5, 6, 7, 8, 9, 10, 11, 12, 13, 14] (by exact ⟨rfl, rfl, by decide, rfl⟩) 3 6 rfl rfl rfl rfl hl.1 rfl (Nat.le_of_ble_eq_true rfl) dX8_assignmentTotal_40 ⟨Nat.le_refl _, Nat.le_refl _⟩ (fun H locs hP hD hS => ?_)
    refine lv_aload_n hx hb dX8_assignmentTotal_43 rfl (lv_at hl 0 rfl) ?_
    refine va_get (D := D) (ci := 8) (v := .ref a3) (C := RX8) (T := TX8) (N := 15) hx hb hts in_X8 hown hK hP 0 rfl rfl 2 (by decide) lk_23 (fun _ h9 => h9) rfl dX8_assignmentTotal_44 ?_
    obtain ⟨planned_2, plannedWind_3, plannedReady_4, now_5, gain_6, then__7, best_8, chosen_9, hc, hf⟩ := ob8_some hf
    refine g_VV (As := [.ref a10, .int wind, .int r_1, .ref a3]) (rest := []) (ws' := (w_X8_assignmentTotal kc a0 a1 a2 a3 a4 a5 a6 a7 a8 a9 a10 a11 a12 a13 a14 a15 a16 a17 a18 a19 a20 a21 a22 a23 a24 a25 a26 a27 a28 a29 a30 a31 a32 a33 a34 a35 a36 a37 a38 a39 textLength errorPlace undoable newest regions balloons letters loft start seed count turnCount day wind loft2 lost launchCount drawState balloonState planned_2 plannedWind_3 plannedReady_4 now_5 pigeons capacity comeback land risk gain_6 then__7 follow best_8 chosen_9)) ⟨hx, hb, hml, hown, hts⟩ hN hK hP hD hS hA (c_X3_plan l D kc N a4 a35 a36 a37 a3 a38 a39 a10 a12 a13 a14 a15 a16 a17 a18 a19 a20 a21 a22 a23 a24 a25 planned plannedWind plannedReady now regions balloons letters loft start seed pigeons capacity comeback count turnCount land risk gain then_ follow best chosen wind r_1 planned_2 plannedWind_3 plannedReady_4 now_5 gain_6 then__7 best_8 chosen_9 hc) (cwV 4 hts gX8_assignmentTotal_X3_plan rfl rfl rfl (by decide +kernel) ⟨Nat.le_of_ble_eq_true rfl, Nat.le_of_ble_eq_true rfl⟩) [5, 6, 7, 1, 8, 9, 10, 2, 11, 12, 13, 14, 15, 16, 17] [0, 3, 4] [0, 6, 10, 1, 2, 3, 4, 5, 7, 8, 9, 11, 12, 13, 14, 15, 16, 17] (by exact ⟨rfl, rfl, by decide, rfl⟩) 5 3 rfl rfl rfl rfl hl.1 rfl (Nat.le_of_ble_eq_true rfl) dX8_assignmentTotal_47 ⟨Nat.le_refl _, Nat.le_refl _⟩ (fun H locs hP hD hS => ?_)
    refine lv_aload_n hx hb dX8_assignmentTotal_50 rfl (lv_at hl 0 rfl) ?_
    refine va_get (D := D) (ci := 8) (v := .ref a4) (C := RX8) (T := TX8) (N := 15) hx hb hts in_X8 hown hK hP 0 rfl rfl 3 (by decide) lk_30 (fun _ h9 => h9) rfl dX8_assignmentTotal_51 ?_
    obtain ⟨r_10, hc, hf⟩ := ob1_some hf
    refine g_VL (As := []) (rest := []) (ws' := (w_X8_assignmentTotal kc a0 a1 a2 a3 a4 a5 a6 a7 a8 a9 a10 a11 a12 a13 a14 a15 a16 a17 a18 a19 a20 a21 a22 a23 a24 a25 a26 a27 a28 a29 a30 a31 a32 a33 a34 a35 a36 a37 a38 a39 textLength errorPlace undoable newest regions balloons letters loft start seed count turnCount day wind loft2 lost launchCount drawState balloonState planned_2 plannedWind_3 plannedReady_4 now_5 pigeons capacity comeback land risk gain_6 then__7 follow best_8 chosen_9)) ⟨hx, hb, hml, hown, hts⟩ hN hK hP hD hS hA (c_X3_total l D kc N a4 a35 a36 a37 planned_2 plannedWind_3 plannedReady_4 best_8 r_10 hc) (cwV 0 hts gX8_assignmentTotal_X3_total rfl rfl rfl (by decide +kernel) ⟨Nat.le_of_ble_eq_true rfl, Nat.le_of_ble_eq_true rfl⟩) [5, 16] [0, 1, 2, 3, 4, 6, 7, 8, 9, 10, 11, 12, 13, 14, 15, 17] [0, 1, 2, 3, 4, 16, 5, 6, 7, 8, 9, 10, 11, 12, 13, 14, 17, 15] (by exact ⟨rfl, rfl, by decide, rfl⟩) 5 3 rfl rfl rfl rfl hl.1 rfl (Nat.le_of_ble_eq_true rfl) dX8_assignmentTotal_54 ⟨Nat.le_refl _, Nat.le_refl _⟩ (fun H locs hP hD hS => ?_)
    cases hf
    exact kR _ _ _ _ hP hD hS dX8_assignmentTotal_57
  · have hf := o_t hc hf
    refine lv_ldc2 (v := (-1)) hx hb hown (hts (.constantLong RX8 138 (-1)) (by decide +kernel)) dX8_assignmentTotal_13 ?_
    cases hf
    exact kR _ _ _ _ hP hD hS dX8_assignmentTotal_16
abbrev w_X8_assignedDay (kc : Nat → ClassId) (a0 a1 a2 a3 a4 a5 a6 a7 a8 a9 a10 a11 a12 a13 a14 a15 a16 a17 a18 a19 a20 a21 a22 a23 a24 a25 a26 a27 a28 a29 a30 a31 a32 a33 a34 a35 a36 a37 a38 a39 : Nat) (textLength : Int32) (errorPlace : Int32) (undoable : Int32) (newest : Int32) (regions : Int32) (balloons : Int32) (letters : Int32) (loft : Int32) (start : Int32) (seed : Int32) (count : Int32) (turnCount : Int32) (day : Int32) (wind : Int32) (loft2 : Int32) (lost : Int32) (launchCount : Int32) (drawState : Int64) (balloonState : Nat → Int32) (planned : Int32) (plannedWind : Int32) (plannedReady : Int32) (now : Nat → Int64) (pigeons : Nat → Int32) (capacity : Nat → Int32) (comeback : Nat → Int32) (land : Nat → Int32) (risk : Nat → Int32) (gain : Nat → Int64) (then_ : Nat → Int64) (follow : Nat → Int32) (best : Nat → Int64) (chosen : Nat → Int32) : va_W := [(a0, .inr (8, [.ref a1, .ref a2, .ref a3, .ref a4, .ref a5, .ref a6, .ref a7, .ref a8, .ref a9, .int textLength, .int errorPlace, .int undoable, .int newest, .ref a10, .ref a11])), (a10, .inr (5, [.ref a12, .ref a13, .ref a14, .ref a15, .ref a16, .ref a17, .ref a18, .ref a19, .int regions, .int balloons, .int letters, .int loft, .int start, .int seed])), (a12, .inr (7, [.int count, .int turnCount, .ref a20, .ref a21, .ref a22, .ref a23, .ref a24, .ref a25])), (a6, .inr (6, [.ref a26, .ref a27, .ref a28, .ref a29, .ref a30, .ref a31, .int day, .int wind, .int loft2, .int lost, .ref a32, .ref a33, .ref a34, .int launchCount, .long drawState])), (a27, .inl (kc 1, 10, .inl balloonState)), (a4, .inr (3, [.ref a35, .ref a36, .ref a37, .int planned, .int plannedWind, .int plannedReady])), (a3, .inr (0, [.ref a38, .ref a39])), (a38, .inl (kc 2, 6, .inr (.inl now))), (a17, .inl (kc 1, 10, .inl pigeons)), (a16, .inl (kc 1, 10, .inl capacity)), (a15, .inl (kc 1, 8, .inl comeback)), (a23, .inl (kc 1, 54, .inl land)), (a13, .inl (kc 1, 8, .inl risk)), (a35, .inl (kc 2, 90, .inr (.inl gain))), (a39, .inl (kc 2, 6, .inr (.inl then_))), (a22, .inl (kc 1, 36, .inl follow)), (a36, .inl (kc 2, 5632, .inr (.inl best))), (a37, .inl (kc 1, 10, .inl chosen))]
set_option maxHeartbeats 4000000 in
set_option maxRecDepth 100000 in
theorem c_X8_assignedDay (l : Launch) (D : va_G) (kc : Nat → ClassId) (N : Nat) (a0 a1 a2 a3 a4 a5 a6 a7 a8 a9 a10 a11 a12 a13 a14 a15 a16 a17 a18 a19 a20 a21 a22 a23 a24 a25 a26 a27 a28 a29 a30 a31 a32 a33 a34 a35 a36 a37 a38 a39 : Nat) (textLength : Int32) (errorPlace : Int32) (undoable : Int32) (newest : Int32) (regions : Int32) (balloons : Int32) (letters : Int32) (loft : Int32) (start : Int32) (seed : Int32) (count : Int32) (turnCount : Int32) (day : Int32) (wind : Int32) (loft2 : Int32) (lost : Int32) (launchCount : Int32) (drawState : Int64) (balloonState : Nat → Int32) (planned : Int32) (plannedWind : Int32) (plannedReady : Int32) (now : Nat → Int64) (pigeons : Nat → Int32) (capacity : Nat → Int32) (comeback : Nat → Int32) (land : Nat → Int32) (risk : Nat → Int32) (gain : Nat → Int64) (then_ : Nat → Int64) (follow : Nat → Int32) (best : Nat → Int64) (chosen : Nat → Int32) (x1 : Int32) (r_ : Int32) (planned' : Int32) (plannedWind' : Int32) (plannedReady' : Int32) (now' : Nat → Int64) (gain' : Nat → Int64) (then_' : Nat → Int64) (best' : Nat → Int64) (chosen' : Nat → Int32) (hf : f_X8_assignedDay N regions balloons count wind balloonState planned plannedWind plannedReady now pigeons capacity comeback land risk gain then_ follow best chosen x1 = some (r_, planned', plannedWind', plannedReady', now', gain', then_', best', chosen')) : MI l yX8_assignedDay wsX8_assignedDay ({ frames := 6, cells := 0, slots := 0, locals := 148 }) D kc [.ref a0, .int x1] (w_X8_assignedDay kc a0 a1 a2 a3 a4 a5 a6 a7 a8 a9 a10 a11 a12 a13 a14 a15 a16 a17 a18 a19 a20 a21 a22 a23 a24 a25 a26 a27 a28 a29 a30 a31 a32 a33 a34 a35 a36 a37 a38 a39 textLength errorPlace undoable newest regions balloons letters loft start seed count turnCount day wind loft2 lost launchCount drawState balloonState planned plannedWind plannedReady now pigeons capacity comeback land risk gain then_ follow best chosen) (w_X8_assignedDay kc a0 a1 a2 a3 a4 a5 a6 a7 a8 a9 a10 a11 a12 a13 a14 a15 a16 a17 a18 a19 a20 a21 a22 a23 a24 a25 a26 a27 a28 a29 a30 a31 a32 a33 a34 a35 a36 a37 a38 a39 textLength errorPlace undoable newest regions balloons letters loft start seed count turnCount day wind loft2 lost launchCount drawState balloonState planned' plannedWind' plannedReady' now' pigeons capacity comeback land risk gain' then_' follow best' chosen') r_ := by
  refine gM_I (cc := cX8_assignedDay) (maxL := 2) (by decide) rfl (Nat.le_of_ble_eq_true rfl) ?_
  intro p e s m below meth c A ls Q hx hb hml hown hts hN hK hP hD hA hl kR
  have hS : va_S A s.heap s.heap [] := va_S.rf
  have hl : lv_has ls 2 [(0, .ref a0), (1, .int x1)] := hl
  have in_X8 : ∀ w ∈ u_ws RX8 TX8 15, w ∈ wsX8_assignedDay := by decide +kernel
  have lk_66 := hts (.fieldLink RX8 66 "BalloonMail" "siege" "LBalloonMail$Siege;") (by decide +kernel)
  have in_X5 : ∀ w ∈ u_ws RX5 TX5 14, w ∈ wsX8_assignedDay := by decide +kernel
  have lk_103 := hts (.fieldLink RX8 103 "BalloonMail$Siege" "winds" "LBalloonMail$Winds;") (by decide +kernel)
  have in_X7 : ∀ w ∈ u_ws RX7 TX7 8, w ∈ wsX8_assignedDay := by decide +kernel
  have lk_107 := hts (.fieldLink RX8 107 "BalloonMail$Winds" "count" "I") (by decide +kernel)
  have lk_30 := hts (.fieldLink RX8 30 "BalloonMail" "planner" "LBalloonMail$Planner;") (by decide +kernel)
  have lk_44 := hts (.fieldLink RX8 44 "BalloonMail" "current" "LBalloonMail$State;") (by decide +kernel)
  have in_X6 : ∀ w ∈ u_ws RX6 TX6 15, w ∈ wsX8_assignedDay := by decide +kernel
  have lk_140 := hts (.fieldLink RX8 140 "BalloonMail$State" "wind" "I") (by decide +kernel)
  have lk_23 := hts (.fieldLink RX8 23 "BalloonMail" "chances" "LBalloonMail$Chances;") (by decide +kernel)
  unfold f_X8_assignedDay at hf
  refine lv_aload_n hx hb dX8_assignedDay_0 rfl (lv_at hl 0 rfl) ?_
  refine va_get (D := D) (ci := 8) (v := .ref a10) (C := RX8) (T := TX8) (N := 15) hx hb hts in_X8 hown hK hP 0 rfl rfl 13 (by decide) lk_66 (fun _ h9 => h9) rfl dX8_assignedDay_1 ?_
  refine lv_iload_n hx hb dX8_assignedDay_4 rfl (lv_at hl 1 rfl) ?_
  obtain ⟨r_1, hc, hf⟩ := ob1_some hf
  refine g_VZ (As := [.int x1]) (rest := []) (ws' := (w_X8_assignedDay kc a0 a1 a2 a3 a4 a5 a6 a7 a8 a9 a10 a11 a12 a13 a14 a15 a16 a17 a18 a19 a20 a21 a22 a23 a24 a25 a26 a27 a28 a29 a30 a31 a32 a33 a34 a35 a36 a37 a38 a39 textLength errorPlace undoable newest regions balloons letters loft start seed count turnCount day wind loft2 lost launchCount drawState balloonState planned plannedWind plannedReady now pigeons capacity comeback land risk gain then_ follow best chosen)) ⟨hx, hb, hml, hown, hts⟩ hN hK hP hD hS hA (c_X5_hasBalloon l D kc N a10 a12 a13 a14 a15 a16 a17 a18 a19 regions balloons letters loft start seed x1 r_1 hc) (cwV 1 hts gX8_assignedDay_X5_hasBalloon rfl rfl rfl (by decide +kernel) ⟨Nat.le_of_ble_eq_true rfl, Nat.le_of_ble_eq_true rfl⟩) [1] [0, 2, 3, 4, 5, 6, 7, 8, 9, 10, 11, 12, 13, 14, 15, 16, 17] [0, 17, 1, 2, 3, 4, 5, 6, 7, 8, 9, 10, 11, 12, 13, 14, 15, 16] (by exact ⟨rfl, rfl, by decide, rfl⟩) 1 5 rfl rfl rfl rfl hl.1 rfl (Nat.le_of_ble_eq_true rfl) dX8_assignedDay_5 ⟨Nat.le_refl _, Nat.le_refl _⟩ (fun H locs hz hP hD hS => ?_)
  have hz_2 := hz
  refine lv_if_eq (tgt := 24) hx hb dX8_assignedDay_8 (by decide) (fun hc => ?_) (fun hc => ?_)
  · have hf := o_t hc hf
    refine lv_iconst (v := (-1)) hx hb dX8_assignedDay_24 (by decide) ?_
    cases hf
    exact kR _ _ _ _ hP hD hS dX8_assignedDay_25
  · have hf := o_f hc hf
    refine lv_aload_n hx hb dX8_assignedDay_11 rfl (lv_at hl 0 rfl) ?_
    refine va_get (D := D) (ci := 8) (v := .ref a10) (C := RX8) (T := TX8) (N := 15) hx hb hts in_X8 hown hK hP 0 rfl rfl 13 (by decide) lk_66 (fun _ h9 => h9) rfl dX8_assignedDay_12 ?_
    refine va_get (D := D) (ci := 5) (v := .ref a12) (C := RX5) (T := TX5) (N := 14) hx hb hts in_X5 hown hK hP 1 rfl rfl 0 (by decide) lk_103 (fun _ h9 => h9) rfl dX8_assignedDay_15 ?_
    refine va_get (D := D) (ci := 7) (v := .int count) (C := RX7) (T := TX7) (N := 8) hx hb hts in_X7 hown hK hP 2 rfl rfl 0 (by decide) lk_107 (fun _ h9 => h9) rfl dX8_assignedDay_18 ?_
    refine lv_if_ne (tgt := 26) hx hb dX8_assignedDay_21 (by decide) (fun hc => ?_) (fun hc => ?_)
    · have hf := o_f hc hf
      refine lv_aload_n hx hb dX8_assignedDay_26 rfl (lv_at hl 0 rfl) ?_
      refine va_get (D := D) (ci := 8) (v := .ref a4) (C := RX8) (T := TX8) (N := 15) hx hb hts in_X8 hown hK hP 0 rfl rfl 3 (by decide) lk_30 (fun _ h9 => h9) rfl dX8_assignedDay_27 ?_
      refine lv_aload_n hx hb dX8_assignedDay_30 rfl (lv_at hl 0 rfl) ?_
      refine va_get (D := D) (ci := 8) (v := .ref a10) (C := RX8) (T := TX8) (N := 15) hx hb hts in_X8 hown hK hP 0 rfl rfl 13 (by decide) lk_66 (fun _ h9 => h9) rfl dX8_assignedDay_31 ?_
      refine lv_aload_n hx hb dX8_assignedDay_34 rfl (lv_at hl 0 rfl) ?_
      refine va_get (D := D) (ci := 8) (v := .ref a6) (C := RX8) (T := TX8) (N := 15) hx hb hts in_X8 hown hK hP 0 rfl rfl 5 (by decide) lk_44 (fun _ h9 => h9) rfl dX8_assignedDay_35 ?_
      refine va_get (D := D) (ci := 6) (v := .int wind) (C := RX6) (T := TX6) (N := 15) hx hb hts in_X6 hown hK hP 3 rfl rfl 7 (by decide) lk_140 (fun _ h9 => h9) rfl dX8_assignedDay_38 ?_
      refine lv_aload_n hx hb dX8_assignedDay_41 rfl (lv_at hl 0 rfl) ?_
      refine va_get (D := D) (ci := 8) (v := .ref a6) (C := RX8) (T := TX8) (N := 15) hx hb hts in_X8 hown hK hP 0 rfl rfl 5 (by decide) lk_44 (fun _ h9 => h9) rfl dX8_assignedDay_42 ?_
      refine lv_aload_n hx hb dX8_assignedDay_45 rfl (lv_at hl 0 rfl) ?_
      refine va_get (D := D) (ci := 8) (v := .ref a10) (C := RX8) (T := TX8) (N := 15) hx hb hts in_X8 hown hK hP 0 rfl rfl 13 (by decide) lk_66 (fun _ h9 => h9) rfl dX8_assignedDay_46 ?_
      obtain ⟨r_3, hc, hf⟩ := ob1_some hf
      refine g_VI (As := [.ref a10]) (rest := [.int wind, .ref a10, .ref a4]) (ws' := (w_X8_assignedDay kc a0 a1 a2 a3 a4 a5 a6 a7 a8 a9 a10 a11 a12 a13 a14 a15 a16 a17 a18 a19 a20 a21 a22 a23 a24 a25 a26 a27 a28 a29 a30 a31 a32 a33 a34 a35 a36 a37 a38 a39 textLength errorPlace undoable newest regions balloons letters loft start seed count turnCount day wind loft2 lost launchCount drawState balloonState planned plannedWind plannedReady now pigeons capacity comeback land risk gain then_ follow best chosen)) ⟨hx, hb, hml, hown, hts⟩ hN hK hP hD hS hA (c_X6_readyBalloons l D kc N a10 a12 a13 a14 a15 a16 a17 a18 a19 a6 a26 a27 a28 a29 a30 a31 a32 a33 a34 regions balloons letters loft start seed day wind loft2 lost launchCount drawState balloonState r_3 hc) (cwV 1 hts gX8_assignedDay_X6_readyBalloons rfl rfl rfl (by decide +kernel) ⟨Nat.le_of_ble_eq_true rfl, Nat.le_of_ble_eq_true rfl⟩) [1, 3, 4] [0, 2, 5, 6, 7, 8, 9, 10, 11, 12, 13, 14, 15, 16, 17] [0, 15, 1, 16, 17, 2, 3, 4, 5, 6, 7, 8, 9, 10, 11, 12, 13, 14] (by exact ⟨rfl, rfl, by decide, rfl⟩) 3 6 rfl rfl rfl rfl hl.1 rfl (Nat.le_of_ble_eq_true rfl) dX8_assignedDay_49 ⟨Nat.le_refl _, Nat.le_refl _⟩ (fun H locs hP hD hS => ?_)
      refine lv_aload_n hx hb dX8_assignedDay_52 rfl (lv_at hl 0 rfl) ?_
      refine va_get (D := D) (ci := 8) (v := .ref a3) (C := RX8) (T := TX8) (N := 15) hx hb hts in_X8 hown hK hP 0 rfl rfl 2 (by decide) lk_23 (fun _ h9 => h9) rfl dX8_assignedDay_53 ?_
      obtain ⟨planned_4, plannedWind_5, plannedReady_6, now_7, gain_8, then__9, best_10, chosen_11, hc, hf⟩ := ob8_some hf
      refine g_VV (As := [.ref a10, .int wind, .int r_3, .ref a3]) (rest := []) (ws' := (w_X8_assignedDay kc a0 a1 a2 a3 a4 a5 a6 a7 a8 a9 a10 a11 a12 a13 a14 a15 a16 a17 a18 a19 a20 a21 a22 a23 a24 a25 a26 a27 a28 a29 a30 a31 a32 a33 a34 a35 a36 a37 a38 a39 textLength errorPlace undoable newest regions balloons letters loft start seed count turnCount day wind loft2 lost launchCount drawState balloonState planned_4 plannedWind_5 plannedReady_6 now_7 pigeons capacity comeback land risk gain_8 then__9 follow best_10 chosen_11)) ⟨hx, hb, hml, hown, hts⟩ hN hK hP hD hS hA (c_X3_plan l D kc N a4 a35 a36 a37 a3 a38 a39 a10 a12 a13 a14 a15 a16 a17 a18 a19 a20 a21 a22 a23 a24 a25 planned plannedWind plannedReady now regions balloons letters loft start seed pigeons capacity comeback count turnCount land risk gain then_ follow best chosen wind r_3 planned_4 plannedWind_5 plannedReady_6 now_7 gain_8 then__9 best_10 chosen_11 hc) (cwV 4 hts gX8_assignedDay_X3_plan rfl rfl rfl (by decide +kernel) ⟨Nat.le_of_ble_eq_true rfl, Nat.le_of_ble_eq_true rfl⟩) [5, 6, 7, 1, 8, 9, 10, 2, 11, 12, 13, 14, 15, 16, 17] [0, 3, 4] [0, 6, 10, 1, 2, 3, 4, 5, 7, 8, 9, 11, 12, 13, 14, 15, 16, 17] (by exact ⟨rfl, rfl, by decide, rfl⟩) 5 3 rfl rfl rfl rfl hl.1 rfl (Nat.le_of_ble_eq_true rfl) dX8_assignedDay_56 ⟨Nat.le_refl _, Nat.le_refl _⟩ (fun H locs hP hD hS => ?_)
      refine lv_aload_n hx hb dX8_assignedDay_59 rfl (lv_at hl 0 rfl) ?_
      refine va_get (D := D) (ci := 8) (v := .ref a4) (C := RX8) (T := TX8) (N := 15) hx hb hts in_X8 hown hK hP 0 rfl rfl 3 (by decide) lk_30 (fun _ h9 => h9) rfl dX8_assignedDay_60 ?_
      refine lv_iload_n hx hb dX8_assignedDay_63 rfl (lv_at hl 1 rfl) ?_
      obtain ⟨r_12, hc, hf⟩ := ob1_some hf
      refine g_VI (As := [.int x1]) (rest := []) (ws' := (w_X8_assignedDay kc a0 a1 a2 a3 a4 a5 a6 a7 a8 a9 a10 a11 a12 a13 a14 a15 a16 a17 a18 a19 a20 a21 a22 a23 a24 a25 a26 a27 a28 a29 a30 a31 a32 a33 a34 a35 a36 a37 a38 a39 textLength errorPlace undoable newest regions balloons letters loft start seed count turnCount day wind loft2 lost launchCount drawState balloonState planned_4 plannedWind_5 plannedReady_6 now_7 pigeons capacity comeback land risk gain_8 then__9 follow best_10 chosen_11)) ⟨hx, hb, hml, hown, hts⟩ hN hK hP hD hS hA (c_X3_dayOf l D kc N a4 a35 a36 a37 planned_4 plannedWind_5 plannedReady_6 chosen_11 x1 r_12 hc) (cwV 1 hts gX8_assignedDay_X3_dayOf rfl rfl rfl (by decide +kernel) ⟨Nat.le_of_ble_eq_true rfl, Nat.le_of_ble_eq_true rfl⟩) [5, 17] [0, 1, 2, 3, 4, 6, 7, 8, 9, 10, 11, 12, 13, 14, 15, 16] [0, 1, 2, 3, 4, 16, 5, 6, 7, 8, 9, 10, 11, 12, 13, 14, 15, 17] (by exact ⟨rfl, rfl, by decide, rfl⟩) 5 3 rfl rfl rfl rfl hl.1 rfl (Nat.le_of_ble_eq_true rfl) dX8_assignedDay_64 ⟨Nat.le_refl _, Nat.le_refl _⟩ (fun H locs hP hD hS => ?_)
      cases hf
      exact kR _ _ _ _ hP hD hS dX8_assignedDay_67
    · have hf := o_t hc hf
      refine lv_iconst (v := (-1)) hx hb dX8_assignedDay_24 (by decide) ?_
      cases hf
      exact kR _ _ _ _ hP hD hS dX8_assignedDay_25
abbrev w_X8_bestLoad (kc : Nat → ClassId) (a0 a1 a2 a3 a4 a5 a6 a7 a8 a9 a10 a11 a12 a13 a14 a15 a16 a17 a18 a19 a20 a21 a22 a23 a24 a25 a26 a27 a28 a29 : Nat) (textLength : Int32) (errorPlace : Int32) (undoable : Int32) (newest : Int32) (regions : Int32) (balloons : Int32) (letters : Int32) (loft : Int32) (start : Int32) (seed : Int32) (day : Int32) (wind : Int32) (loft2 : Int32) (lost : Int32) (launchCount : Int32) (drawState : Int64) (balloonState : Nat → Int32) (letters2 : Nat → Int32) (capacity : Nat → Int32) (lightest : Nat → Int64) (weight : Nat → Int32) (priority : Nat → Int32) : va_W := [(a0, .inr (8, [.ref a1, .ref a2, .ref a3, .ref a4, .ref a5, .ref a6, .ref a7, .ref a8, .ref a9, .int textLength, .int errorPlace, .int undoable, .int newest, .ref a10, .ref a11])), (a10, .inr (5, [.ref a12, .ref a13, .ref a14, .ref a15, .ref a16, .ref a17, .ref a18, .ref a19, .int regions, .int balloons, .int letters, .int loft, .int start, .int seed])), (a6, .inr (6, [.ref a20, .ref a21, .ref a22, .ref a23, .ref a24, .ref a25, .int day, .int wind, .int loft2, .int lost, .ref a26, .ref a27, .ref a28, .int launchCount, .long drawState])), (a21, .inl (kc 1, 10, .inl balloonState)), (a24, .inl (kc 1, 4, .inl letters2)), (a16, .inl (kc 1, 10, .inl capacity)), (a5, .inr (2, [.ref a29])), (a29, .inl (kc 2, 217, .inr (.inl lightest))), (a18, .inl (kc 1, 24, .inl weight)), (a19, .inl (kc 1, 24, .inl priority))]
set_option maxHeartbeats 4000000 in
set_option maxRecDepth 100000 in
theorem c_X8_bestLoad (l : Launch) (D : va_G) (kc : Nat → ClassId) (N : Nat) (a0 a1 a2 a3 a4 a5 a6 a7 a8 a9 a10 a11 a12 a13 a14 a15 a16 a17 a18 a19 a20 a21 a22 a23 a24 a25 a26 a27 a28 a29 : Nat) (textLength : Int32) (errorPlace : Int32) (undoable : Int32) (newest : Int32) (regions : Int32) (balloons : Int32) (letters : Int32) (loft : Int32) (start : Int32) (seed : Int32) (day : Int32) (wind : Int32) (loft2 : Int32) (lost : Int32) (launchCount : Int32) (drawState : Int64) (balloonState : Nat → Int32) (letters2 : Nat → Int32) (capacity : Nat → Int32) (lightest : Nat → Int64) (weight : Nat → Int32) (priority : Nat → Int32) (x1 : Int32) (r_ : Int32) (lightest' : Nat → Int64) (hf : f_X8_bestLoad N balloons letters balloonState letters2 capacity lightest weight priority x1 = some (r_, lightest')) : MI l yX8_bestLoad wsX8_bestLoad ({ frames := 3, cells := 0, slots := 0, locals := 73 }) D kc [.ref a0, .int x1] (w_X8_bestLoad kc a0 a1 a2 a3 a4 a5 a6 a7 a8 a9 a10 a11 a12 a13 a14 a15 a16 a17 a18 a19 a20 a21 a22 a23 a24 a25 a26 a27 a28 a29 textLength errorPlace undoable newest regions balloons letters loft start seed day wind loft2 lost launchCount drawState balloonState letters2 capacity lightest weight priority) (w_X8_bestLoad kc a0 a1 a2 a3 a4 a5 a6 a7 a8 a9 a10 a11 a12 a13 a14 a15 a16 a17 a18 a19 a20 a21 a22 a23 a24 a25 a26 a27 a28 a29 textLength errorPlace undoable newest regions balloons letters loft start seed day wind loft2 lost launchCount drawState balloonState letters2 capacity lightest' weight priority) r_ := by
  refine gM_I (cc := cX8_bestLoad) (maxL := 2) (by decide) rfl (Nat.le_of_ble_eq_true rfl) ?_
  intro p e s m below meth c A ls Q hx hb hml hown hts hN hK hP hD hA hl kR
  have hS : va_S A s.heap s.heap [] := va_S.rf
  have hl : lv_has ls 2 [(0, .ref a0), (1, .int x1)] := hl
  have in_X8 : ∀ w ∈ u_ws RX8 TX8 15, w ∈ wsX8_bestLoad := by decide +kernel
  have lk_66 := hts (.fieldLink RX8 66 "BalloonMail" "siege" "LBalloonMail$Siege;") (by decide +kernel)
  have lk_44 := hts (.fieldLink RX8 44 "BalloonMail" "current" "LBalloonMail$State;") (by decide +kernel)
  have in_X6 : ∀ w ∈ u_ws RX6 TX6 15, w ∈ wsX8_bestLoad := by decide +kernel
  have lk_205 := hts (.fieldLink RX8 205 "BalloonMail$State" "balloonState" "[I") (by decide +kernel)
  have lk_37 := hts (.fieldLink RX8 37 "BalloonMail" "loader" "LBalloonMail$Loader;") (by decide +kernel)
  have lk_208 := hts (.fieldLink RX8 208 "BalloonMail$State" "letters" "[I") (by decide +kernel)
  have in_X5 : ∀ w ∈ u_ws RX5 TX5 14, w ∈ wsX8_bestLoad := by decide +kernel
  have lk_122 := hts (.fieldLink RX8 122 "BalloonMail$Siege" "capacity" "[I") (by decide +kernel)
  unfold f_X8_bestLoad at hf
  refine lv_aload_n hx hb dX8_bestLoad_0 rfl (lv_at hl 0 rfl) ?_
  refine va_get (D := D) (ci := 8) (v := .ref a10) (C := RX8) (T := TX8) (N := 15) hx hb hts in_X8 hown hK hP 0 rfl rfl 13 (by decide) lk_66 (fun _ h9 => h9) rfl dX8_bestLoad_1 ?_
  refine lv_iload_n hx hb dX8_bestLoad_4 rfl (lv_at hl 1 rfl) ?_
  obtain ⟨r_1, hc, hf⟩ := ob1_some hf
  refine g_VZ (As := [.int x1]) (rest := []) (ws' := (w_X8_bestLoad kc a0 a1 a2 a3 a4 a5 a6 a7 a8 a9 a10 a11 a12 a13 a14 a15 a16 a17 a18 a19 a20 a21 a22 a23 a24 a25 a26 a27 a28 a29 textLength errorPlace undoable newest regions balloons letters loft start seed day wind loft2 lost launchCount drawState balloonState letters2 capacity lightest weight priority)) ⟨hx, hb, hml, hown, hts⟩ hN hK hP hD hS hA (c_X5_hasBalloon l D kc N a10 a12 a13 a14 a15 a16 a17 a18 a19 regions balloons letters loft start seed x1 r_1 hc) (cwV 1 hts gX8_bestLoad_X5_hasBalloon rfl rfl rfl (by decide +kernel) ⟨Nat.le_of_ble_eq_true rfl, Nat.le_of_ble_eq_true rfl⟩) [1] [0, 2, 3, 4, 5, 6, 7, 8, 9] [0, 9, 1, 2, 3, 4, 5, 6, 7, 8] (by exact ⟨rfl, rfl, by decide, rfl⟩) 1 5 rfl rfl rfl rfl hl.1 rfl (Nat.le_of_ble_eq_true rfl) dX8_bestLoad_5 ⟨Nat.le_refl _, Nat.le_refl _⟩ (fun H locs hz hP hD hS => ?_)
  have hz_2 := hz
  refine lv_if_ne (tgt := 13) hx hb dX8_bestLoad_8 (by decide) (fun hc => ?_) (fun hc => ?_)
  · have hf := o_f hc hf
    refine lv_aload_n hx hb dX8_bestLoad_13 rfl (lv_at hl 0 rfl) ?_
    refine va_get (D := D) (ci := 8) (v := .ref a6) (C := RX8) (T := TX8) (N := 15) hx hb hts in_X8 hown hK hP 0 rfl rfl 5 (by decide) lk_44 (fun _ h9 => h9) rfl dX8_bestLoad_14 ?_
    refine va_get (D := D) (ci := 6) (v := .ref a21) (C := RX6) (T := TX6) (N := 15) hx hb hts in_X6 hown hK hP 2 rfl rfl 1 (by decide) lk_205 (fun _ h9 => h9) rfl dX8_bestLoad_17 ?_
    refine lv_iload_n hx hb dX8_bestLoad_20 rfl (lv_at hl 1 rfl) ?_
    obtain ⟨hi, hf⟩ := gIx_some hf
    refine va_iald hx hb hK hP 3 1 rfl rfl hi dX8_bestLoad_21 ?_
    refine lv_if_eq (tgt := 28) hx hb dX8_bestLoad_22 (by decide) (fun hc => ?_) (fun hc => ?_)
    · have hf := o_t hc hf
      refine lv_aload_n hx hb dX8_bestLoad_28 rfl (lv_at hl 0 rfl) ?_
      refine va_get (D := D) (ci := 8) (v := .ref a5) (C := RX8) (T := TX8) (N := 15) hx hb hts in_X8 hown hK hP 0 rfl rfl 4 (by decide) lk_37 (fun _ h9 => h9) rfl dX8_bestLoad_29 ?_
      refine lv_aload_n hx hb dX8_bestLoad_32 rfl (lv_at hl 0 rfl) ?_
      refine va_get (D := D) (ci := 8) (v := .ref a10) (C := RX8) (T := TX8) (N := 15) hx hb hts in_X8 hown hK hP 0 rfl rfl 13 (by decide) lk_66 (fun _ h9 => h9) rfl dX8_bestLoad_33 ?_
      refine lv_aload_n hx hb dX8_bestLoad_36 rfl (lv_at hl 0 rfl) ?_
      refine va_get (D := D) (ci := 8) (v := .ref a6) (C := RX8) (T := TX8) (N := 15) hx hb hts in_X8 hown hK hP 0 rfl rfl 5 (by decide) lk_44 (fun _ h9 => h9) rfl dX8_bestLoad_37 ?_
      refine va_get (D := D) (ci := 6) (v := .ref a24) (C := RX6) (T := TX6) (N := 15) hx hb hts in_X6 hown hK hP 2 rfl rfl 4 (by decide) lk_208 (fun _ h9 => h9) rfl dX8_bestLoad_40 ?_
      refine lv_iconst (v := 0) hx hb dX8_bestLoad_43 (by decide) ?_
      obtain ⟨hi, hf⟩ := gIx_some hf
      refine va_iald hx hb hK hP 4 1 rfl rfl hi dX8_bestLoad_44 ?_
      refine lv_aload_n hx hb dX8_bestLoad_45 rfl (lv_at hl 0 rfl) ?_
      refine va_get (D := D) (ci := 8) (v := .ref a10) (C := RX8) (T := TX8) (N := 15) hx hb hts in_X8 hown hK hP 0 rfl rfl 13 (by decide) lk_66 (fun _ h9 => h9) rfl dX8_bestLoad_46 ?_
      refine va_get (D := D) (ci := 5) (v := .ref a16) (C := RX5) (T := TX5) (N := 14) hx hb hts in_X5 hown hK hP 1 rfl rfl 4 (by decide) lk_122 (fun _ h9 => h9) rfl dX8_bestLoad_49 ?_
      refine lv_iload_n hx hb dX8_bestLoad_52 rfl (lv_at hl 1 rfl) ?_
      obtain ⟨hi, hf⟩ := gIx_some hf
      refine va_iald hx hb hK hP 5 1 rfl rfl hi dX8_bestLoad_53 ?_
      obtain ⟨r_3, lightest_4, hc, hf⟩ := ob2_some hf
      refine g_VI (As := [.ref a10, .int (letters2 (0 : Int32).toNatClampNeg), .int (capacity (x1 : Int32).toNatClampNeg)]) (rest := []) (ws' := (w_X8_bestLoad kc a0 a1 a2 a3 a4 a5 a6 a7 a8 a9 a10 a11 a12 a13 a14 a15 a16 a17 a18 a19 a20 a21 a22 a23 a24 a25 a26 a27 a28 a29 textLength errorPlace undoable newest regions balloons letters loft start seed day wind loft2 lost launchCount drawState balloonState letters2 capacity lightest_4 weight priority)) ⟨hx, hb, hml, hown, hts⟩ hN hK hP hD hS hA (c_X2_best l D kc N a5 a29 a10 a12 a13 a14 a15 a16 a17 a18 a19 lightest regions balloons letters loft start seed weight priority (letters2 (0 : Int32).toNatClampNeg) (capacity (x1 : Int32).toNatClampNeg) r_3 lightest_4 hc) (cwV 3 hts gX8_bestLoad_X2_best rfl rfl rfl (by decide +kernel) ⟨Nat.le_of_ble_eq_true rfl, Nat.le_of_ble_eq_true rfl⟩) [6, 7, 1, 8, 9] [0, 2, 3, 4, 5] [0, 7, 1, 2, 3, 4, 5, 6, 8, 9] (by exact ⟨rfl, rfl, by decide, rfl⟩) 6 2 rfl rfl rfl rfl hl.1 rfl (Nat.le_of_ble_eq_true rfl) dX8_bestLoad_54 ⟨Nat.le_refl _, Nat.le_refl _⟩ (fun H locs hP hD hS => ?_)
      cases hf
      exact kR _ _ _ _ hP hD hS dX8_bestLoad_57
    · have hf := o_f hc hf
      refine lv_bipush (v := (-2)) hx hb dX8_bestLoad_25 (by decide) ?_
      cases hf
      exact kR _ _ _ _ hP hD hS dX8_bestLoad_27
  · have hf := o_t hc hf
    refine lv_iconst (v := (-1)) hx hb dX8_bestLoad_11 (by decide) ?_
    cases hf
    exact kR _ _ _ _ hP hD hS dX8_bestLoad_12
abbrev w_X8_weightOf (kc : Nat → ClassId) (a0 a1 a2 a3 a4 a5 a6 a7 a8 a9 a10 a11 a12 a13 a14 a15 a16 a17 a18 a19 : Nat) (textLength : Int32) (errorPlace : Int32) (undoable : Int32) (newest : Int32) (regions : Int32) (balloons : Int32) (letters : Int32) (loft : Int32) (start : Int32) (seed : Int32) (weight : Nat → Int32) : va_W := [(a0, .inr (8, [.ref a1, .ref a2, .ref a3, .ref a4, .ref a5, .ref a6, .ref a7, .ref a8, .ref a9, .int textLength, .int errorPlace, .int undoable, .int newest, .ref a10, .ref a11])), (a10, .inr (5, [.ref a12, .ref a13, .ref a14, .ref a15, .ref a16, .ref a17, .ref a18, .ref a19, .int regions, .int balloons, .int letters, .int loft, .int start, .int seed])), (a18, .inl (kc 1, 24, .inl weight))]
set_option maxHeartbeats 4000000 in
set_option maxRecDepth 100000 in
theorem c_X8_weightOf (l : Launch) (D : va_G) (kc : Nat → ClassId) (N : Nat) (a0 a1 a2 a3 a4 a5 a6 a7 a8 a9 a10 a11 a12 a13 a14 a15 a16 a17 a18 a19 : Nat) (textLength : Int32) (errorPlace : Int32) (undoable : Int32) (newest : Int32) (regions : Int32) (balloons : Int32) (letters : Int32) (loft : Int32) (start : Int32) (seed : Int32) (weight : Nat → Int32) (x1 : Int32) (r_ : Int32) (hf : f_X8_weightOf N letters weight x1 = some r_) : MI l yX8_weightOf wsX8_weightOf ({ frames := 1, cells := 0, slots := 0, locals := 24 }) D kc [.ref a0, .int x1] (w_X8_weightOf kc a0 a1 a2 a3 a4 a5 a6 a7 a8 a9 a10 a11 a12 a13 a14 a15 a16 a17 a18 a19 textLength errorPlace undoable newest regions balloons letters loft start seed weight) (w_X8_weightOf kc a0 a1 a2 a3 a4 a5 a6 a7 a8 a9 a10 a11 a12 a13 a14 a15 a16 a17 a18 a19 textLength errorPlace undoable newest regions balloons letters loft start seed weight) r_ := by
  refine gM_I (cc := cX8_weightOf) (maxL := 2) (by decide) rfl (Nat.le_of_ble_eq_true rfl) ?_
  intro p e s m below meth c A ls Q hx hb hml hown hts hN hK hP hD hA hl kR
  have hS : va_S A s.heap s.heap [] := va_S.rf
  have hl : lv_has ls 2 [(0, .ref a0), (1, .int x1)] := hl
  have in_X8 : ∀ w ∈ u_ws RX8 TX8 15, w ∈ wsX8_weightOf := by decide +kernel
  have lk_66 := hts (.fieldLink RX8 66 "BalloonMail" "siege" "LBalloonMail$Siege;") (by decide +kernel)
  have in_X5 : ∀ w ∈ u_ws RX5 TX5 14, w ∈ wsX8_weightOf := by decide +kernel
  have lk_129 := hts (.fieldLink RX8 129 "BalloonMail$Siege" "weight" "[I") (by decide +kernel)
  unfold f_X8_weightOf at hf
  refine lv_aload_n hx hb dX8_weightOf_0 rfl (lv_at hl 0 rfl) ?_
  refine va_get (D := D) (ci := 8) (v := .ref a10) (C := RX8) (T := TX8) (N := 15) hx hb hts in_X8 hown hK hP 0 rfl rfl 13 (by decide) lk_66 (fun _ h9 => h9) rfl dX8_weightOf_1 ?_
  refine lv_iload_n hx hb dX8_weightOf_4 rfl (lv_at hl 1 rfl) ?_
  obtain ⟨r_1, hc, hf⟩ := ob1_some hf
  refine g_VZ (As := [.int x1]) (rest := []) (ws' := (w_X8_weightOf kc a0 a1 a2 a3 a4 a5 a6 a7 a8 a9 a10 a11 a12 a13 a14 a15 a16 a17 a18 a19 textLength errorPlace undoable newest regions balloons letters loft start seed weight)) ⟨hx, hb, hml, hown, hts⟩ hN hK hP hD hS hA (c_X5_hasLetters l D kc N a10 a12 a13 a14 a15 a16 a17 a18 a19 regions balloons letters loft start seed x1 r_1 hc) (cwV 1 hts gX8_weightOf_X5_hasLetters rfl rfl rfl (by decide +kernel) ⟨Nat.le_of_ble_eq_true rfl, Nat.le_of_ble_eq_true rfl⟩) [1] [0, 2] [0, 2, 1] (by exact ⟨rfl, rfl, by decide, rfl⟩) 1 5 rfl rfl rfl rfl hl.1 rfl (Nat.le_of_ble_eq_true rfl) dX8_weightOf_5 ⟨Nat.le_refl _, Nat.le_refl _⟩ (fun H locs hz hP hD hS => ?_)
  have hz_2 := hz
  refine lv_if_eq (tgt := 29) hx hb dX8_weightOf_8 (by decide) (fun hc => ?_) (fun hc => ?_)
  · have hf := o_t hc hf
    refine lv_iconst (v := (-1)) hx hb dX8_weightOf_29 (by decide) ?_
    cases hf
    exact kR _ _ _ _ hP hD hS dX8_weightOf_30
  · have hf := o_f hc hf
    refine lv_aload_n hx hb dX8_weightOf_11 rfl (lv_at hl 0 rfl) ?_
    refine va_get (D := D) (ci := 8) (v := .ref a10) (C := RX8) (T := TX8) (N := 15) hx hb hts in_X8 hown hK hP 0 rfl rfl 13 (by decide) lk_66 (fun _ h9 => h9) rfl dX8_weightOf_12 ?_
    refine lv_aload_n hx hb dX8_weightOf_15 rfl (lv_at hl 0 rfl) ?_
    refine va_get (D := D) (ci := 8) (v := .ref a10) (C := RX8) (T := TX8) (N := 15) hx hb hts in_X8 hown hK hP 0 rfl rfl 13 (by decide) lk_66 (fun _ h9 => h9) rfl dX8_weightOf_16 ?_
    refine va_get (D := D) (ci := 5) (v := .ref a18) (C := RX5) (T := TX5) (N := 14) hx hb hts in_X5 hown hK hP 1 rfl rfl 6 (by decide) lk_129 (fun _ h9 => h9) rfl dX8_weightOf_19 ?_
    refine lv_iload_n hx hb dX8_weightOf_22 rfl (lv_at hl 1 rfl) ?_
    obtain ⟨r_3, hc, hf⟩ := ob1_some hf
    refine g_VI (As := [.ref a18, .int x1]) (rest := []) (ws' := (w_X8_weightOf kc a0 a1 a2 a3 a4 a5 a6 a7 a8 a9 a10 a11 a12 a13 a14 a15 a16 a17 a18 a19 textLength errorPlace undoable newest regions balloons letters loft start seed weight)) ⟨hx, hb, hml, hown, hts⟩ hN hK hP hD hS hA (c_X5_total l D kc N a10 a12 a13 a14 a15 a16 a17 a18 a19 a18 24 regions balloons letters loft start seed weight x1 r_3 hc) (cwV 2 hts gX8_weightOf_X5_total rfl rfl rfl (by decide +kernel) ⟨Nat.le_of_ble_eq_true rfl, Nat.le_of_ble_eq_true rfl⟩) [1, 2] [0] [0, 1, 2] (by exact ⟨rfl, rfl, by decide, rfl⟩) 1 5 rfl rfl rfl rfl hl.1 rfl (Nat.le_of_ble_eq_true rfl) dX8_weightOf_23 ⟨Nat.le_refl _, Nat.le_refl _⟩ (fun H locs hP hD hS => ?_)
    refine lv_goto (tgt := 30) hx hb dX8_weightOf_26 (by decide) ?_
    cases hf
    exact kR _ _ _ _ hP hD hS dX8_weightOf_30
abbrev w_X8_priorityOf (kc : Nat → ClassId) (a0 a1 a2 a3 a4 a5 a6 a7 a8 a9 a10 a11 a12 a13 a14 a15 a16 a17 a18 a19 : Nat) (textLength : Int32) (errorPlace : Int32) (undoable : Int32) (newest : Int32) (regions : Int32) (balloons : Int32) (letters : Int32) (loft : Int32) (start : Int32) (seed : Int32) (priority : Nat → Int32) : va_W := [(a0, .inr (8, [.ref a1, .ref a2, .ref a3, .ref a4, .ref a5, .ref a6, .ref a7, .ref a8, .ref a9, .int textLength, .int errorPlace, .int undoable, .int newest, .ref a10, .ref a11])), (a10, .inr (5, [.ref a12, .ref a13, .ref a14, .ref a15, .ref a16, .ref a17, .ref a18, .ref a19, .int regions, .int balloons, .int letters, .int loft, .int start, .int seed])), (a19, .inl (kc 1, 24, .inl priority))]
set_option maxHeartbeats 4000000 in
set_option maxRecDepth 100000 in
theorem c_X8_priorityOf (l : Launch) (D : va_G) (kc : Nat → ClassId) (N : Nat) (a0 a1 a2 a3 a4 a5 a6 a7 a8 a9 a10 a11 a12 a13 a14 a15 a16 a17 a18 a19 : Nat) (textLength : Int32) (errorPlace : Int32) (undoable : Int32) (newest : Int32) (regions : Int32) (balloons : Int32) (letters : Int32) (loft : Int32) (start : Int32) (seed : Int32) (priority : Nat → Int32) (x1 : Int32) (r_ : Int32) (hf : f_X8_priorityOf N letters priority x1 = some r_) : MI l yX8_priorityOf wsX8_priorityOf ({ frames := 1, cells := 0, slots := 0, locals := 24 }) D kc [.ref a0, .int x1] (w_X8_priorityOf kc a0 a1 a2 a3 a4 a5 a6 a7 a8 a9 a10 a11 a12 a13 a14 a15 a16 a17 a18 a19 textLength errorPlace undoable newest regions balloons letters loft start seed priority) (w_X8_priorityOf kc a0 a1 a2 a3 a4 a5 a6 a7 a8 a9 a10 a11 a12 a13 a14 a15 a16 a17 a18 a19 textLength errorPlace undoable newest regions balloons letters loft start seed priority) r_ := by
  refine gM_I (cc := cX8_priorityOf) (maxL := 2) (by decide) rfl (Nat.le_of_ble_eq_true rfl) ?_
  intro p e s m below meth c A ls Q hx hb hml hown hts hN hK hP hD hA hl kR
  have hS : va_S A s.heap s.heap [] := va_S.rf
  have hl : lv_has ls 2 [(0, .ref a0), (1, .int x1)] := hl
  have in_X8 : ∀ w ∈ u_ws RX8 TX8 15, w ∈ wsX8_priorityOf := by decide +kernel
  have lk_66 := hts (.fieldLink RX8 66 "BalloonMail" "siege" "LBalloonMail$Siege;") (by decide +kernel)
  have in_X5 : ∀ w ∈ u_ws RX5 TX5 14, w ∈ wsX8_priorityOf := by decide +kernel
  have lk_220 := hts (.fieldLink RX8 220 "BalloonMail$Siege" "priority" "[I") (by decide +kernel)
  unfold f_X8_priorityOf at hf
  refine lv_aload_n hx hb dX8_priorityOf_0 rfl (lv_at hl 0 rfl) ?_
  refine va_get (D := D) (ci := 8) (v := .ref a10) (C := RX8) (T := TX8) (N := 15) hx hb hts in_X8 hown hK hP 0 rfl rfl 13 (by decide) lk_66 (fun _ h9 => h9) rfl dX8_priorityOf_1 ?_
  refine lv_iload_n hx hb dX8_priorityOf_4 rfl (lv_at hl 1 rfl) ?_
  obtain ⟨r_1, hc, hf⟩ := ob1_some hf
  refine g_VZ (As := [.int x1]) (rest := []) (ws' := (w_X8_priorityOf kc a0 a1 a2 a3 a4 a5 a6 a7 a8 a9 a10 a11 a12 a13 a14 a15 a16 a17 a18 a19 textLength errorPlace undoable newest regions balloons letters loft start seed priority)) ⟨hx, hb, hml, hown, hts⟩ hN hK hP hD hS hA (c_X5_hasLetters l D kc N a10 a12 a13 a14 a15 a16 a17 a18 a19 regions balloons letters loft start seed x1 r_1 hc) (cwV 1 hts gX8_priorityOf_X5_hasLetters rfl rfl rfl (by decide +kernel) ⟨Nat.le_of_ble_eq_true rfl, Nat.le_of_ble_eq_true rfl⟩) [1] [0, 2] [0, 2, 1] (by exact ⟨rfl, rfl, by decide, rfl⟩) 1 5 rfl rfl rfl rfl hl.1 rfl (Nat.le_of_ble_eq_true rfl) dX8_priorityOf_5 ⟨Nat.le_refl _, Nat.le_refl _⟩ (fun H locs hz hP hD hS => ?_)
  have hz_2 := hz
  refine lv_if_eq (tgt := 29) hx hb dX8_priorityOf_8 (by decide) (fun hc => ?_) (fun hc => ?_)
  · have hf := o_t hc hf
    refine lv_iconst (v := (-1)) hx hb dX8_priorityOf_29 (by decide) ?_
    cases hf
    exact kR _ _ _ _ hP hD hS dX8_priorityOf_30
  · have hf := o_f hc hf
    refine lv_aload_n hx hb dX8_priorityOf_11 rfl (lv_at hl 0 rfl) ?_
    refine va_get (D := D) (ci := 8) (v := .ref a10) (C := RX8) (T := TX8) (N := 15) hx hb hts in_X8 hown hK hP 0 rfl rfl 13 (by decide) lk_66 (fun _ h9 => h9) rfl dX8_priorityOf_12 ?_
    refine lv_aload_n hx hb dX8_priorityOf_15 rfl (lv_at hl 0 rfl) ?_
    refine va_get (D := D) (ci := 8) (v := .ref a10) (C := RX8) (T := TX8) (N := 15) hx hb hts in_X8 hown hK hP 0 rfl rfl 13 (by decide) lk_66 (fun _ h9 => h9) rfl dX8_priorityOf_16 ?_
    refine va_get (D := D) (ci := 5) (v := .ref a19) (C := RX5) (T := TX5) (N := 14) hx hb hts in_X5 hown hK hP 1 rfl rfl 7 (by decide) lk_220 (fun _ h9 => h9) rfl dX8_priorityOf_19 ?_
    refine lv_iload_n hx hb dX8_priorityOf_22 rfl (lv_at hl 1 rfl) ?_
    obtain ⟨r_3, hc, hf⟩ := ob1_some hf
    refine g_VI (As := [.ref a19, .int x1]) (rest := []) (ws' := (w_X8_priorityOf kc a0 a1 a2 a3 a4 a5 a6 a7 a8 a9 a10 a11 a12 a13 a14 a15 a16 a17 a18 a19 textLength errorPlace undoable newest regions balloons letters loft start seed priority)) ⟨hx, hb, hml, hown, hts⟩ hN hK hP hD hS hA (c_X5_total l D kc N a10 a12 a13 a14 a15 a16 a17 a18 a19 a19 24 regions balloons letters loft start seed priority x1 r_3 hc) (cwV 2 hts gX8_priorityOf_X5_total rfl rfl rfl (by decide +kernel) ⟨Nat.le_of_ble_eq_true rfl, Nat.le_of_ble_eq_true rfl⟩) [1, 2] [0] [0, 1, 2] (by exact ⟨rfl, rfl, by decide, rfl⟩) 1 5 rfl rfl rfl rfl hl.1 rfl (Nat.le_of_ble_eq_true rfl) dX8_priorityOf_23 ⟨Nat.le_refl _, Nat.le_refl _⟩ (fun H locs hP hD hS => ?_)
    refine lv_goto (tgt := 30) hx hb dX8_priorityOf_26 (by decide) ?_
    cases hf
    exact kR _ _ _ _ hP hD hS dX8_priorityOf_30
abbrev w_X8_lettersIn (kc : Nat → ClassId) (a0 a1 a2 a3 a4 a5 a6 a7 a8 a9 a10 a11 a12 a13 a14 a15 a16 a17 a18 a19 a20 : Nat) (textLength : Int32) (errorPlace : Int32) (undoable : Int32) (newest : Int32) (day : Int32) (wind : Int32) (loft : Int32) (lost : Int32) (launchCount : Int32) (drawState : Int64) (letters : Nat → Int32) : va_W := [(a0, .inr (8, [.ref a1, .ref a2, .ref a3, .ref a4, .ref a5, .ref a6, .ref a7, .ref a8, .ref a9, .int textLength, .int errorPlace, .int undoable, .int newest, .ref a10, .ref a11])), (a6, .inr (6, [.ref a12, .ref a13, .ref a14, .ref a15, .ref a16, .ref a17, .int day, .int wind, .int loft, .int lost, .ref a18, .ref a19, .ref a20, .int launchCount, .long drawState])), (a16, .inl (kc 1, 4, .inl letters))]
set_option maxHeartbeats 4000000 in
set_option maxRecDepth 100000 in
theorem c_X8_lettersIn (l : Launch) (D : va_G) (kc : Nat → ClassId) (N : Nat) (a0 a1 a2 a3 a4 a5 a6 a7 a8 a9 a10 a11 a12 a13 a14 a15 a16 a17 a18 a19 a20 : Nat) (textLength : Int32) (errorPlace : Int32) (undoable : Int32) (newest : Int32) (day : Int32) (wind : Int32) (loft : Int32) (lost : Int32) (launchCount : Int32) (drawState : Int64) (letters : Nat → Int32) (x1 : Int32) (r_ : Int32) (hf : f_X8_lettersIn N letters x1 = some r_) : MI l yX8_lettersIn wsX8_lettersIn ({ frames := 1, cells := 0, slots := 0, locals := 20 }) D kc [.ref a0, .int x1] (w_X8_lettersIn kc a0 a1 a2 a3 a4 a5 a6 a7 a8 a9 a10 a11 a12 a13 a14 a15 a16 a17 a18 a19 a20 textLength errorPlace undoable newest day wind loft lost launchCount drawState letters) (w_X8_lettersIn kc a0 a1 a2 a3 a4 a5 a6 a7 a8 a9 a10 a11 a12 a13 a14 a15 a16 a17 a18 a19 a20 textLength errorPlace undoable newest day wind loft lost launchCount drawState letters) r_ := by
  refine gM_I (cc := cX8_lettersIn) (maxL := 2) (by decide) rfl (Nat.le_of_ble_eq_true rfl) ?_
  intro p e s m below meth c A ls Q hx hb hml hown hts hN hK hP hD hA hl kR
  have hS : va_S A s.heap s.heap [] := va_S.rf
  have hl : lv_has ls 2 [(0, .ref a0), (1, .int x1)] := hl
  have in_X8 : ∀ w ∈ u_ws RX8 TX8 15, w ∈ wsX8_lettersIn := by decide +kernel
  have lk_44 := hts (.fieldLink RX8 44 "BalloonMail" "current" "LBalloonMail$State;") (by decide +kernel)
  have in_X6 : ∀ w ∈ u_ws RX6 TX6 15, w ∈ wsX8_lettersIn := by decide +kernel
  have lk_208 := hts (.fieldLink RX8 208 "BalloonMail$State" "letters" "[I") (by decide +kernel)
  unfold f_X8_lettersIn at hf
  refine lv_iload_n hx hb dX8_lettersIn_0 rfl (lv_at hl 1 rfl) ?_
  obtain ⟨r_1, hc, hf⟩ := ob1_some hf
  refine g_SZ (As := [.int x1]) (rest := []) (ws' := (w_X8_lettersIn kc a0 a1 a2 a3 a4 a5 a6 a7 a8 a9 a10 a11 a12 a13 a14 a15 a16 a17 a18 a19 a20 textLength errorPlace undoable newest day wind loft lost launchCount drawState letters)) ⟨hx, hb, hml, hown, hts⟩ hN hK hP hD hS hA (c_X8_isLetterState l D kc N x1 r_1 hc) (va_cwS 1 hts gX8_lettersIn_X8_isLetterState rfl rfl rfl (by decide +kernel) ⟨Nat.le_of_ble_eq_true rfl, Nat.le_of_ble_eq_true rfl⟩) [] [0, 1, 2] [0, 1, 2] (by exact ⟨rfl, rfl, by decide, rfl⟩) rfl hl.1 rfl (Nat.le_of_ble_eq_true rfl) dX8_lettersIn_1 ⟨Nat.le_refl _, Nat.le_refl _⟩ (fun H locs hz hP hD hS => ?_)
  have hz_2 := hz
  refine lv_if_eq (tgt := 19) hx hb dX8_lettersIn_4 (by decide) (fun hc => ?_) (fun hc => ?_)
  · have hf := o_t hc hf
    refine lv_iconst (v := (-1)) hx hb dX8_lettersIn_19 (by decide) ?_
    cases hf
    exact kR _ _ _ _ hP hD hS dX8_lettersIn_20
  · have hf := o_f hc hf
    refine lv_aload_n hx hb dX8_lettersIn_7 rfl (lv_at hl 0 rfl) ?_
    refine va_get (D := D) (ci := 8) (v := .ref a6) (C := RX8) (T := TX8) (N := 15) hx hb hts in_X8 hown hK hP 0 rfl rfl 5 (by decide) lk_44 (fun _ h9 => h9) rfl dX8_lettersIn_8 ?_
    refine va_get (D := D) (ci := 6) (v := .ref a16) (C := RX6) (T := TX6) (N := 15) hx hb hts in_X6 hown hK hP 1 rfl rfl 4 (by decide) lk_208 (fun _ h9 => h9) rfl dX8_lettersIn_11 ?_
    refine lv_iload_n hx hb dX8_lettersIn_14 rfl (lv_at hl 1 rfl) ?_
    obtain ⟨hi, hf⟩ := gIx_some hf
    refine va_iald hx hb hK hP 2 1 rfl rfl hi dX8_lettersIn_15 ?_
    refine lv_goto (tgt := 20) hx hb dX8_lettersIn_16 (by decide) ?_
    cases hf
    exact kR _ _ _ _ hP hD hS dX8_lettersIn_20
abbrev w_X8_day (kc : Nat → ClassId) (a0 a1 a2 a3 a4 a5 a6 a7 a8 a9 a10 a11 a12 a13 a14 a15 a16 a17 a18 a19 a20 : Nat) (textLength : Int32) (errorPlace : Int32) (undoable : Int32) (newest : Int32) (day : Int32) (wind : Int32) (loft : Int32) (lost : Int32) (launchCount : Int32) (drawState : Int64) : va_W := [(a0, .inr (8, [.ref a1, .ref a2, .ref a3, .ref a4, .ref a5, .ref a6, .ref a7, .ref a8, .ref a9, .int textLength, .int errorPlace, .int undoable, .int newest, .ref a10, .ref a11])), (a6, .inr (6, [.ref a12, .ref a13, .ref a14, .ref a15, .ref a16, .ref a17, .int day, .int wind, .int loft, .int lost, .ref a18, .ref a19, .ref a20, .int launchCount, .long drawState]))]
set_option maxHeartbeats 4000000 in
set_option maxRecDepth 100000 in
theorem c_X8_day (l : Launch) (D : va_G) (kc : Nat → ClassId) (N : Nat) (a0 a1 a2 a3 a4 a5 a6 a7 a8 a9 a10 a11 a12 a13 a14 a15 a16 a17 a18 a19 a20 : Nat) (textLength : Int32) (errorPlace : Int32) (undoable : Int32) (newest : Int32) (day : Int32) (wind : Int32) (loft : Int32) (lost : Int32) (launchCount : Int32) (drawState : Int64) (r_ : Int32) (hf : f_X8_day N day = some r_) : MI l yX8_day wsX8_day ({ frames := 0, cells := 0, slots := 0, locals := 0 }) D kc [.ref a0] (w_X8_day kc a0 a1 a2 a3 a4 a5 a6 a7 a8 a9 a10 a11 a12 a13 a14 a15 a16 a17 a18 a19 a20 textLength errorPlace undoable newest day wind loft lost launchCount drawState) (w_X8_day kc a0 a1 a2 a3 a4 a5 a6 a7 a8 a9 a10 a11 a12 a13 a14 a15 a16 a17 a18 a19 a20 textLength errorPlace undoable newest day wind loft lost launchCount drawState) r_ := by
  refine gM_I (cc := cX8_day) (maxL := 1) (by decide) rfl (Nat.le_of_ble_eq_true rfl) ?_
  intro p e s m below meth c A ls Q hx hb hml hown hts hN hK hP hD hA hl kR
  have hS : va_S A s.heap s.heap [] := va_S.rf
  have hl : lv_has ls 1 [(0, .ref a0)] := hl
  have in_X8 : ∀ w ∈ u_ws RX8 TX8 15, w ∈ wsX8_day := by decide +kernel
  have lk_44 := hts (.fieldLink RX8 44 "BalloonMail" "current" "LBalloonMail$State;") (by decide +kernel)
  have in_X6 : ∀ w ∈ u_ws RX6 TX6 15, w ∈ wsX8_day := by decide +kernel
  have lk_226 := hts (.fieldLink RX8 226 "BalloonMail$State" "day" "I") (by decide +kernel)
  unfold f_X8_day at hf
  refine lv_aload_n hx hb dX8_day_0 rfl (lv_at hl 0 rfl) ?_
  refine va_get (D := D) (ci := 8) (v := .ref a6) (C := RX8) (T := TX8) (N := 15) hx hb hts in_X8 hown hK hP 0 rfl rfl 5 (by decide) lk_44 (fun _ h9 => h9) rfl dX8_day_1 ?_
  refine va_get (D := D) (ci := 6) (v := .int day) (C := RX6) (T := TX6) (N := 15) hx hb hts in_X6 hown hK hP 1 rfl rfl 6 (by decide) lk_226 (fun _ h9 => h9) rfl dX8_day_4 ?_
  cases hf
  exact kR _ _ _ _ hP hD hS dX8_day_7
abbrev w_X8_wind (kc : Nat → ClassId) (a0 a1 a2 a3 a4 a5 a6 a7 a8 a9 a10 a11 a12 a13 a14 a15 a16 a17 a18 a19 a20 : Nat) (textLength : Int32) (errorPlace : Int32) (undoable : Int32) (newest : Int32) (day : Int32) (wind : Int32) (loft : Int32) (lost : Int32) (launchCount : Int32) (drawState : Int64) : va_W := [(a0, .inr (8, [.ref a1, .ref a2, .ref a3, .ref a4, .ref a5, .ref a6, .ref a7, .ref a8, .ref a9, .int textLength, .int errorPlace, .int undoable, .int newest, .ref a10, .ref a11])), (a6, .inr (6, [.ref a12, .ref a13, .ref a14, .ref a15, .ref a16, .ref a17, .int day, .int wind, .int loft, .int lost, .ref a18, .ref a19, .ref a20, .int launchCount, .long drawState]))]
set_option maxHeartbeats 4000000 in
set_option maxRecDepth 100000 in
theorem c_X8_wind (l : Launch) (D : va_G) (kc : Nat → ClassId) (N : Nat) (a0 a1 a2 a3 a4 a5 a6 a7 a8 a9 a10 a11 a12 a13 a14 a15 a16 a17 a18 a19 a20 : Nat) (textLength : Int32) (errorPlace : Int32) (undoable : Int32) (newest : Int32) (day : Int32) (wind : Int32) (loft : Int32) (lost : Int32) (launchCount : Int32) (drawState : Int64) (r_ : Int32) (hf : f_X8_wind N wind = some r_) : MI l yX8_wind wsX8_wind ({ frames := 0, cells := 0, slots := 0, locals := 0 }) D kc [.ref a0] (w_X8_wind kc a0 a1 a2 a3 a4 a5 a6 a7 a8 a9 a10 a11 a12 a13 a14 a15 a16 a17 a18 a19 a20 textLength errorPlace undoable newest day wind loft lost launchCount drawState) (w_X8_wind kc a0 a1 a2 a3 a4 a5 a6 a7 a8 a9 a10 a11 a12 a13 a14 a15 a16 a17 a18 a19 a20 textLength errorPlace undoable newest day wind loft lost launchCount drawState) r_ := by
  refine gM_I (cc := cX8_wind) (maxL := 1) (by decide) rfl (Nat.le_of_ble_eq_true rfl) ?_
  intro p e s m below meth c A ls Q hx hb hml hown hts hN hK hP hD hA hl kR
  have hS : va_S A s.heap s.heap [] := va_S.rf
  have hl : lv_has ls 1 [(0, .ref a0)] := hl
  have in_X8 : ∀ w ∈ u_ws RX8 TX8 15, w ∈ wsX8_wind := by decide +kernel
  have lk_44 := hts (.fieldLink RX8 44 "BalloonMail" "current" "LBalloonMail$State;") (by decide +kernel)
  have in_X6 : ∀ w ∈ u_ws RX6 TX6 15, w ∈ wsX8_wind := by decide +kernel
  have lk_140 := hts (.fieldLink RX8 140 "BalloonMail$State" "wind" "I") (by decide +kernel)
  unfold f_X8_wind at hf
  refine lv_aload_n hx hb dX8_wind_0 rfl (lv_at hl 0 rfl) ?_
  refine va_get (D := D) (ci := 8) (v := .ref a6) (C := RX8) (T := TX8) (N := 15) hx hb hts in_X8 hown hK hP 0 rfl rfl 5 (by decide) lk_44 (fun _ h9 => h9) rfl dX8_wind_1 ?_
  refine va_get (D := D) (ci := 6) (v := .int wind) (C := RX6) (T := TX6) (N := 15) hx hb hts in_X6 hown hK hP 1 rfl rfl 7 (by decide) lk_140 (fun _ h9 => h9) rfl dX8_wind_4 ?_
  cases hf
  exact kR _ _ _ _ hP hD hS dX8_wind_7
abbrev w_X8_balloonState (kc : Nat → ClassId) (a0 a1 a2 a3 a4 a5 a6 a7 a8 a9 a10 a11 a12 a13 a14 a15 a16 a17 a18 a19 a20 a21 a22 a23 a24 a25 a26 a27 a28 : Nat) (textLength : Int32) (errorPlace : Int32) (undoable : Int32) (newest : Int32) (regions : Int32) (balloons : Int32) (letters : Int32) (loft : Int32) (start : Int32) (seed : Int32) (day : Int32) (wind : Int32) (loft2 : Int32) (lost : Int32) (launchCount : Int32) (drawState : Int64) (balloonState : Nat → Int32) : va_W := [(a0, .inr (8, [.ref a1, .ref a2, .ref a3, .ref a4, .ref a5, .ref a6, .ref a7, .ref a8, .ref a9, .int textLength, .int errorPlace, .int undoable, .int newest, .ref a10, .ref a11])), (a10, .inr (5, [.ref a12, .ref a13, .ref a14, .ref a15, .ref a16, .ref a17, .ref a18, .ref a19, .int regions, .int balloons, .int letters, .int loft, .int start, .int seed])), (a6, .inr (6, [.ref a20, .ref a21, .ref a22, .ref a23, .ref a24, .ref a25, .int day, .int wind, .int loft2, .int lost, .ref a26, .ref a27, .ref a28, .int launchCount, .long drawState])), (a21, .inl (kc 1, 10, .inl balloonState))]
set_option maxHeartbeats 4000000 in
set_option maxRecDepth 100000 in
theorem c_X8_balloonState (l : Launch) (D : va_G) (kc : Nat → ClassId) (N : Nat) (a0 a1 a2 a3 a4 a5 a6 a7 a8 a9 a10 a11 a12 a13 a14 a15 a16 a17 a18 a19 a20 a21 a22 a23 a24 a25 a26 a27 a28 : Nat) (textLength : Int32) (errorPlace : Int32) (undoable : Int32) (newest : Int32) (regions : Int32) (balloons : Int32) (letters : Int32) (loft : Int32) (start : Int32) (seed : Int32) (day : Int32) (wind : Int32) (loft2 : Int32) (lost : Int32) (launchCount : Int32) (drawState : Int64) (balloonState : Nat → Int32) (x1 : Int32) (r_ : Int32) (hf : f_X8_balloonState N balloons balloonState x1 = some r_) : MI l yX8_balloonState wsX8_balloonState ({ frames := 1, cells := 0, slots := 0, locals := 21 }) D kc [.ref a0, .int x1] (w_X8_balloonState kc a0 a1 a2 a3 a4 a5 a6 a7 a8 a9 a10 a11 a12 a13 a14 a15 a16 a17 a18 a19 a20 a21 a22 a23 a24 a25 a26 a27 a28 textLength errorPlace undoable newest regions balloons letters loft start seed day wind loft2 lost launchCount drawState balloonState) (w_X8_balloonState kc a0 a1 a2 a3 a4 a5 a6 a7 a8 a9 a10 a11 a12 a13 a14 a15 a16 a17 a18 a19 a20 a21 a22 a23 a24 a25 a26 a27 a28 textLength errorPlace undoable newest regions balloons letters loft start seed day wind loft2 lost launchCount drawState balloonState) r_ := by
  refine gM_I (cc := cX8_balloonState) (maxL := 2) (by decide) rfl (Nat.le_of_ble_eq_true rfl) ?_
  intro p e s m below meth c A ls Q hx hb hml hown hts hN hK hP hD hA hl kR
  have hS : va_S A s.heap s.heap [] := va_S.rf
  have hl : lv_has ls 2 [(0, .ref a0), (1, .int x1)] := hl
  have in_X8 : ∀ w ∈ u_ws RX8 TX8 15, w ∈ wsX8_balloonState := by decide +kernel
  have lk_66 := hts (.fieldLink RX8 66 "BalloonMail" "siege" "LBalloonMail$Siege;") (by decide +kernel)
  have lk_44 := hts (.fieldLink RX8 44 "BalloonMail" "current" "LBalloonMail$State;") (by decide +kernel)
  have in_X6 : ∀ w ∈ u_ws RX6 TX6 15, w ∈ wsX8_balloonState := by decide +kernel
  have lk_205 := hts (.fieldLink RX8 205 "BalloonMail$State" "balloonState" "[I") (by decide +kernel)
  unfold f_X8_balloonState at hf
  refine lv_aload_n hx hb dX8_balloonState_0 rfl (lv_at hl 0 rfl) ?_
  refine va_get (D := D) (ci := 8) (v := .ref a10) (C := RX8) (T := TX8) (N := 15) hx hb hts in_X8 hown hK hP 0 rfl rfl 13 (by decide) lk_66 (fun _ h9 => h9) rfl dX8_balloonState_1 ?_
  refine lv_iload_n hx hb dX8_balloonState_4 rfl (lv_at hl 1 rfl) ?_
  obtain ⟨r_1, hc, hf⟩ := ob1_some hf
  refine g_VZ (As := [.int x1]) (rest := []) (ws' := (w_X8_balloonState kc a0 a1 a2 a3 a4 a5 a6 a7 a8 a9 a10 a11 a12 a13 a14 a15 a16 a17 a18 a19 a20 a21 a22 a23 a24 a25 a26 a27 a28 textLength errorPlace undoable newest regions balloons letters loft start seed day wind loft2 lost launchCount drawState balloonState)) ⟨hx, hb, hml, hown, hts⟩ hN hK hP hD hS hA (c_X5_hasBalloon l D kc N a10 a12 a13 a14 a15 a16 a17 a18 a19 regions balloons letters loft start seed x1 r_1 hc) (cwV 1 hts gX8_balloonState_X5_hasBalloon rfl rfl rfl (by decide +kernel) ⟨Nat.le_of_ble_eq_true rfl, Nat.le_of_ble_eq_true rfl⟩) [1] [0, 2, 3] [0, 3, 1, 2] (by exact ⟨rfl, rfl, by decide, rfl⟩) 1 5 rfl rfl rfl rfl hl.1 rfl (Nat.le_of_ble_eq_true rfl) dX8_balloonState_5 ⟨Nat.le_refl _, Nat.le_refl _⟩ (fun H locs hz hP hD hS => ?_)
  have hz_2 := hz
  refine lv_if_eq (tgt := 23) hx hb dX8_balloonState_8 (by decide) (fun hc => ?_) (fun hc => ?_)
  · have hf := o_t hc hf
    refine lv_iconst (v := (-1)) hx hb dX8_balloonState_23 (by decide) ?_
    cases hf
    exact kR _ _ _ _ hP hD hS dX8_balloonState_24
  · have hf := o_f hc hf
    refine lv_aload_n hx hb dX8_balloonState_11 rfl (lv_at hl 0 rfl) ?_
    refine va_get (D := D) (ci := 8) (v := .ref a6) (C := RX8) (T := TX8) (N := 15) hx hb hts in_X8 hown hK hP 0 rfl rfl 5 (by decide) lk_44 (fun _ h9 => h9) rfl dX8_balloonState_12 ?_
    refine va_get (D := D) (ci := 6) (v := .ref a21) (C := RX6) (T := TX6) (N := 15) hx hb hts in_X6 hown hK hP 2 rfl rfl 1 (by decide) lk_205 (fun _ h9 => h9) rfl dX8_balloonState_15 ?_
    refine lv_iload_n hx hb dX8_balloonState_18 rfl (lv_at hl 1 rfl) ?_
    obtain ⟨hi, hf⟩ := gIx_some hf
    refine va_iald hx hb hK hP 3 1 rfl rfl hi dX8_balloonState_19 ?_
    refine lv_goto (tgt := 24) hx hb dX8_balloonState_20 (by decide) ?_
    cases hf
    exact kR _ _ _ _ hP hD hS dX8_balloonState_24
abbrev w_X8_balloonRegion (kc : Nat → ClassId) (a0 a1 a2 a3 a4 a5 a6 a7 a8 a9 a10 a11 a12 a13 a14 a15 a16 a17 a18 a19 a20 a21 a22 a23 a24 a25 a26 a27 a28 : Nat) (textLength : Int32) (errorPlace : Int32) (undoable : Int32) (newest : Int32) (regions : Int32) (balloons : Int32) (letters : Int32) (loft : Int32) (start : Int32) (seed : Int32) (day : Int32) (wind : Int32) (loft2 : Int32) (lost : Int32) (launchCount : Int32) (drawState : Int64) (balloonRegion : Nat → Int32) : va_W := [(a0, .inr (8, [.ref a1, .ref a2, .ref a3, .ref a4, .ref a5, .ref a6, .ref a7, .ref a8, .ref a9, .int textLength, .int errorPlace, .int undoable, .int newest, .ref a10, .ref a11])), (a10, .inr (5, [.ref a12, .ref a13, .ref a14, .ref a15, .ref a16, .ref a17, .ref a18, .ref a19, .int regions, .int balloons, .int letters, .int loft, .int start, .int seed])), (a6, .inr (6, [.ref a20, .ref a21, .ref a22, .ref a23, .ref a24, .ref a25, .int day, .int wind, .int loft2, .int lost, .ref a26, .ref a27, .ref a28, .int launchCount, .long drawState])), (a22, .inl (kc 1, 10, .inl balloonRegion))]
set_option maxHeartbeats 4000000 in
set_option maxRecDepth 100000 in
theorem c_X8_balloonRegion (l : Launch) (D : va_G) (kc : Nat → ClassId) (N : Nat) (a0 a1 a2 a3 a4 a5 a6 a7 a8 a9 a10 a11 a12 a13 a14 a15 a16 a17 a18 a19 a20 a21 a22 a23 a24 a25 a26 a27 a28 : Nat) (textLength : Int32) (errorPlace : Int32) (undoable : Int32) (newest : Int32) (regions : Int32) (balloons : Int32) (letters : Int32) (loft : Int32) (start : Int32) (seed : Int32) (day : Int32) (wind : Int32) (loft2 : Int32) (lost : Int32) (launchCount : Int32) (drawState : Int64) (balloonRegion : Nat → Int32) (x1 : Int32) (r_ : Int32) (hf : f_X8_balloonRegion N balloons balloonRegion x1 = some r_) : MI l yX8_balloonRegion wsX8_balloonRegion ({ frames := 1, cells := 0, slots := 0, locals := 21 }) D kc [.ref a0, .int x1] (w_X8_balloonRegion kc a0 a1 a2 a3 a4 a5 a6 a7 a8 a9 a10 a11 a12 a13 a14 a15 a16 a17 a18 a19 a20 a21 a22 a23 a24 a25 a26 a27 a28 textLength errorPlace undoable newest regions balloons letters loft start seed day wind loft2 lost launchCount drawState balloonRegion) (w_X8_balloonRegion kc a0 a1 a2 a3 a4 a5 a6 a7 a8 a9 a10 a11 a12 a13 a14 a15 a16 a17 a18 a19 a20 a21 a22 a23 a24 a25 a26 a27 a28 textLength errorPlace undoable newest regions balloons letters loft start seed day wind loft2 lost launchCount drawState balloonRegion) r_ := by
  refine gM_I (cc := cX8_balloonRegion) (maxL := 2) (by decide) rfl (Nat.le_of_ble_eq_true rfl) ?_
  intro p e s m below meth c A ls Q hx hb hml hown hts hN hK hP hD hA hl kR
  have hS : va_S A s.heap s.heap [] := va_S.rf
  have hl : lv_has ls 2 [(0, .ref a0), (1, .int x1)] := hl
  have in_X8 : ∀ w ∈ u_ws RX8 TX8 15, w ∈ wsX8_balloonRegion := by decide +kernel
  have lk_66 := hts (.fieldLink RX8 66 "BalloonMail" "siege" "LBalloonMail$Siege;") (by decide +kernel)
  have lk_44 := hts (.fieldLink RX8 44 "BalloonMail" "current" "LBalloonMail$State;") (by decide +kernel)
  have in_X6 : ∀ w ∈ u_ws RX6 TX6 15, w ∈ wsX8_balloonRegion := by decide +kernel
  have lk_243 := hts (.fieldLink RX8 243 "BalloonMail$State" "balloonRegion" "[I") (by decide +kernel)
  unfold f_X8_balloonRegion at hf
  refine lv_aload_n hx hb dX8_balloonRegion_0 rfl (lv_at hl 0 rfl) ?_
  refine va_get (D := D) (ci := 8) (v := .ref a10) (C := RX8) (T := TX8) (N := 15) hx hb hts in_X8 hown hK hP 0 rfl rfl 13 (by decide) lk_66 (fun _ h9 => h9) rfl dX8_balloonRegion_1 ?_
  refine lv_iload_n hx hb dX8_balloonRegion_4 rfl (lv_at hl 1 rfl) ?_
  obtain ⟨r_1, hc, hf⟩ := ob1_some hf
  refine g_VZ (As := [.int x1]) (rest := []) (ws' := (w_X8_balloonRegion kc a0 a1 a2 a3 a4 a5 a6 a7 a8 a9 a10 a11 a12 a13 a14 a15 a16 a17 a18 a19 a20 a21 a22 a23 a24 a25 a26 a27 a28 textLength errorPlace undoable newest regions balloons letters loft start seed day wind loft2 lost launchCount drawState balloonRegion)) ⟨hx, hb, hml, hown, hts⟩ hN hK hP hD hS hA (c_X5_hasBalloon l D kc N a10 a12 a13 a14 a15 a16 a17 a18 a19 regions balloons letters loft start seed x1 r_1 hc) (cwV 1 hts gX8_balloonRegion_X5_hasBalloon rfl rfl rfl (by decide +kernel) ⟨Nat.le_of_ble_eq_true rfl, Nat.le_of_ble_eq_true rfl⟩) [1] [0, 2, 3] [0, 3, 1, 2] (by exact ⟨rfl, rfl, by decide, rfl⟩) 1 5 rfl rfl rfl rfl hl.1 rfl (Nat.le_of_ble_eq_true rfl) dX8_balloonRegion_5 ⟨Nat.le_refl _, Nat.le_refl _⟩ (fun H locs hz hP hD hS => ?_)
  have hz_2 := hz
  refine lv_if_eq (tgt := 23) hx hb dX8_balloonRegion_8 (by decide) (fun hc => ?_) (fun hc => ?_)
  · have hf := o_t hc hf
    refine lv_iconst (v := (-1)) hx hb dX8_balloonRegion_23 (by decide) ?_
    cases hf
    exact kR _ _ _ _ hP hD hS dX8_balloonRegion_24
  · have hf := o_f hc hf
    refine lv_aload_n hx hb dX8_balloonRegion_11 rfl (lv_at hl 0 rfl) ?_
    refine va_get (D := D) (ci := 8) (v := .ref a6) (C := RX8) (T := TX8) (N := 15) hx hb hts in_X8 hown hK hP 0 rfl rfl 5 (by decide) lk_44 (fun _ h9 => h9) rfl dX8_balloonRegion_12 ?_
    refine va_get (D := D) (ci := 6) (v := .ref a22) (C := RX6) (T := TX6) (N := 15) hx hb hts in_X6 hown hK hP 2 rfl rfl 2 (by decide) lk_243 (fun _ h9 => h9) rfl dX8_balloonRegion_15 ?_
    refine lv_iload_n hx hb dX8_balloonRegion_18 rfl (lv_at hl 1 rfl) ?_
    obtain ⟨hi, hf⟩ := gIx_some hf
    refine va_iald hx hb hK hP 3 1 rfl rfl hi dX8_balloonRegion_19 ?_
    refine lv_goto (tgt := 24) hx hb dX8_balloonRegion_20 (by decide) ?_
    cases hf
    exact kR _ _ _ _ hP hD hS dX8_balloonRegion_24
abbrev w_X8_cargo (kc : Nat → ClassId) (a0 a1 a2 a3 a4 a5 a6 a7 a8 a9 a10 a11 a12 a13 a14 a15 a16 a17 a18 a19 a20 a21 a22 a23 a24 a25 a26 a27 a28 : Nat) (textLength : Int32) (errorPlace : Int32) (undoable : Int32) (newest : Int32) (regions : Int32) (balloons : Int32) (letters : Int32) (loft : Int32) (start : Int32) (seed : Int32) (day : Int32) (wind : Int32) (loft2 : Int32) (lost : Int32) (launchCount : Int32) (drawState : Int64) (cargo : Nat → Int32) : va_W := [(a0, .inr (8, [.ref a1, .ref a2, .ref a3, .ref a4, .ref a5, .ref a6, .ref a7, .ref a8, .ref a9, .int textLength, .int errorPlace, .int undoable, .int newest, .ref a10, .ref a11])), (a10, .inr (5, [.ref a12, .ref a13, .ref a14, .ref a15, .ref a16, .ref a17, .ref a18, .ref a19, .int regions, .int balloons, .int letters, .int loft, .int start, .int seed])), (a6, .inr (6, [.ref a20, .ref a21, .ref a22, .ref a23, .ref a24, .ref a25, .int day, .int wind, .int loft2, .int lost, .ref a26, .ref a27, .ref a28, .int launchCount, .long drawState])), (a23, .inl (kc 1, 10, .inl cargo))]
set_option maxHeartbeats 4000000 in
set_option maxRecDepth 100000 in
theorem c_X8_cargo (l : Launch) (D : va_G) (kc : Nat → ClassId) (N : Nat) (a0 a1 a2 a3 a4 a5 a6 a7 a8 a9 a10 a11 a12 a13 a14 a15 a16 a17 a18 a19 a20 a21 a22 a23 a24 a25 a26 a27 a28 : Nat) (textLength : Int32) (errorPlace : Int32) (undoable : Int32) (newest : Int32) (regions : Int32) (balloons : Int32) (letters : Int32) (loft : Int32) (start : Int32) (seed : Int32) (day : Int32) (wind : Int32) (loft2 : Int32) (lost : Int32) (launchCount : Int32) (drawState : Int64) (cargo : Nat → Int32) (x1 : Int32) (r_ : Int32) (hf : f_X8_cargo N balloons cargo x1 = some r_) : MI l yX8_cargo wsX8_cargo ({ frames := 1, cells := 0, slots := 0, locals := 21 }) D kc [.ref a0, .int x1] (w_X8_cargo kc a0 a1 a2 a3 a4 a5 a6 a7 a8 a9 a10 a11 a12 a13 a14 a15 a16 a17 a18 a19 a20 a21 a22 a23 a24 a25 a26 a27 a28 textLength errorPlace undoable newest regions balloons letters loft start seed day wind loft2 lost launchCount drawState cargo) (w_X8_cargo kc a0 a1 a2 a3 a4 a5 a6 a7 a8 a9 a10 a11 a12 a13 a14 a15 a16 a17 a18 a19 a20 a21 a22 a23 a24 a25 a26 a27 a28 textLength errorPlace undoable newest regions balloons letters loft start seed day wind loft2 lost launchCount drawState cargo) r_ := by
  refine gM_I (cc := cX8_cargo) (maxL := 2) (by decide) rfl (Nat.le_of_ble_eq_true rfl) ?_
  intro p e s m below meth c A ls Q hx hb hml hown hts hN hK hP hD hA hl kR
  have hS : va_S A s.heap s.heap [] := va_S.rf
  have hl : lv_has ls 2 [(0, .ref a0), (1, .int x1)] := hl
  have in_X8 : ∀ w ∈ u_ws RX8 TX8 15, w ∈ wsX8_cargo := by decide +kernel
  have lk_66 := hts (.fieldLink RX8 66 "BalloonMail" "siege" "LBalloonMail$Siege;") (by decide +kernel)
  have lk_44 := hts (.fieldLink RX8 44 "BalloonMail" "current" "LBalloonMail$State;") (by decide +kernel)
  have in_X6 : ∀ w ∈ u_ws RX6 TX6 15, w ∈ wsX8_cargo := by decide +kernel
  have lk_246 := hts (.fieldLink RX8 246 "BalloonMail$State" "cargo" "[I") (by decide +kernel)
  unfold f_X8_cargo at hf
  refine lv_aload_n hx hb dX8_cargo_0 rfl (lv_at hl 0 rfl) ?_
  refine va_get (D := D) (ci := 8) (v := .ref a10) (C := RX8) (T := TX8) (N := 15) hx hb hts in_X8 hown hK hP 0 rfl rfl 13 (by decide) lk_66 (fun _ h9 => h9) rfl dX8_cargo_1 ?_
  refine lv_iload_n hx hb dX8_cargo_4 rfl (lv_at hl 1 rfl) ?_
  obtain ⟨r_1, hc, hf⟩ := ob1_some hf
  refine g_VZ (As := [.int x1]) (rest := []) (ws' := (w_X8_cargo kc a0 a1 a2 a3 a4 a5 a6 a7 a8 a9 a10 a11 a12 a13 a14 a15 a16 a17 a18 a19 a20 a21 a22 a23 a24 a25 a26 a27 a28 textLength errorPlace undoable newest regions balloons letters loft start seed day wind loft2 lost launchCount drawState cargo)) ⟨hx, hb, hml, hown, hts⟩ hN hK hP hD hS hA (c_X5_hasBalloon l D kc N a10 a12 a13 a14 a15 a16 a17 a18 a19 regions balloons letters loft start seed x1 r_1 hc) (cwV 1 hts gX8_cargo_X5_hasBalloon rfl rfl rfl (by decide +kernel) ⟨Nat.le_of_ble_eq_true rfl, Nat.le_of_ble_eq_true rfl⟩) [1] [0, 2, 3] [0, 3, 1, 2] (by exact ⟨rfl, rfl, by decide, rfl⟩) 1 5 rfl rfl rfl rfl hl.1 rfl (Nat.le_of_ble_eq_true rfl) dX8_cargo_5 ⟨Nat.le_refl _, Nat.le_refl _⟩ (fun H locs hz hP hD hS => ?_)
  have hz_2 := hz
  refine lv_if_eq (tgt := 23) hx hb dX8_cargo_8 (by decide) (fun hc => ?_) (fun hc => ?_)
  · have hf := o_t hc hf
    refine lv_iconst (v := (-1)) hx hb dX8_cargo_23 (by decide) ?_
    cases hf
    exact kR _ _ _ _ hP hD hS dX8_cargo_24
  · have hf := o_f hc hf
    refine lv_aload_n hx hb dX8_cargo_11 rfl (lv_at hl 0 rfl) ?_
    refine va_get (D := D) (ci := 8) (v := .ref a6) (C := RX8) (T := TX8) (N := 15) hx hb hts in_X8 hown hK hP 0 rfl rfl 5 (by decide) lk_44 (fun _ h9 => h9) rfl dX8_cargo_12 ?_
    refine va_get (D := D) (ci := 6) (v := .ref a23) (C := RX6) (T := TX6) (N := 15) hx hb hts in_X6 hown hK hP 2 rfl rfl 3 (by decide) lk_246 (fun _ h9 => h9) rfl dX8_cargo_15 ?_
    refine lv_iload_n hx hb dX8_cargo_18 rfl (lv_at hl 1 rfl) ?_
    obtain ⟨hi, hf⟩ := gIx_some hf
    refine va_iald hx hb hK hP 3 1 rfl rfl hi dX8_cargo_19 ?_
    refine lv_goto (tgt := 24) hx hb dX8_cargo_20 (by decide) ?_
    cases hf
    exact kR _ _ _ _ hP hD hS dX8_cargo_24
abbrev w_X8_letterState (kc : Nat → ClassId) (a0 a1 a2 a3 a4 a5 a6 a7 a8 a9 a10 a11 a12 a13 a14 a15 a16 a17 a18 a19 a20 a21 a22 a23 a24 a25 a26 a27 a28 : Nat) (textLength : Int32) (errorPlace : Int32) (undoable : Int32) (newest : Int32) (regions : Int32) (balloons : Int32) (letters : Int32) (loft : Int32) (start : Int32) (seed : Int32) (day : Int32) (wind : Int32) (loft2 : Int32) (lost : Int32) (launchCount : Int32) (drawState : Int64) (letters2 : Nat → Int32) : va_W := [(a0, .inr (8, [.ref a1, .ref a2, .ref a3, .ref a4, .ref a5, .ref a6, .ref a7, .ref a8, .ref a9, .int textLength, .int errorPlace, .int undoable, .int newest, .ref a10, .ref a11])), (a10, .inr (5, [.ref a12, .ref a13, .ref a14, .ref a15, .ref a16, .ref a17, .ref a18, .ref a19, .int regions, .int balloons, .int letters, .int loft, .int start, .int seed])), (a6, .inr (6, [.ref a20, .ref a21, .ref a22, .ref a23, .ref a24, .ref a25, .int day, .int wind, .int loft2, .int lost, .ref a26, .ref a27, .ref a28, .int launchCount, .long drawState])), (a24, .inl (kc 1, 4, .inl letters2))]
set_option maxHeartbeats 4000000 in
set_option maxRecDepth 100000 in
theorem c_X8_letterState (l : Launch) (D : va_G) (kc : Nat → ClassId) (N : Nat) (a0 a1 a2 a3 a4 a5 a6 a7 a8 a9 a10 a11 a12 a13 a14 a15 a16 a17 a18 a19 a20 a21 a22 a23 a24 a25 a26 a27 a28 : Nat) (textLength : Int32) (errorPlace : Int32) (undoable : Int32) (newest : Int32) (regions : Int32) (balloons : Int32) (letters : Int32) (loft : Int32) (start : Int32) (seed : Int32) (day : Int32) (wind : Int32) (loft2 : Int32) (lost : Int32) (launchCount : Int32) (drawState : Int64) (letters2 : Nat → Int32) (x1 : Int32) (r_ : Int32) (hf : f_X8_letterState N letters letters2 x1 = some r_) : MI l yX8_letterState wsX8_letterState ({ frames := 1, cells := 0, slots := 0, locals := 22 }) D kc [.ref a0, .int x1] (w_X8_letterState kc a0 a1 a2 a3 a4 a5 a6 a7 a8 a9 a10 a11 a12 a13 a14 a15 a16 a17 a18 a19 a20 a21 a22 a23 a24 a25 a26 a27 a28 textLength errorPlace undoable newest regions balloons letters loft start seed day wind loft2 lost launchCount drawState letters2) (w_X8_letterState kc a0 a1 a2 a3 a4 a5 a6 a7 a8 a9 a10 a11 a12 a13 a14 a15 a16 a17 a18 a19 a20 a21 a22 a23 a24 a25 a26 a27 a28 textLength errorPlace undoable newest regions balloons letters loft start seed day wind loft2 lost launchCount drawState letters2) r_ := by
  refine gM_I (cc := cX8_letterState) (maxL := 2) (by decide) rfl (Nat.le_of_ble_eq_true rfl) ?_
  intro p e s m below meth c A ls Q hx hb hml hown hts hN hK hP hD hA hl kR
  have hS : va_S A s.heap s.heap [] := va_S.rf
  have hl : lv_has ls 2 [(0, .ref a0), (1, .int x1)] := hl
  have in_X8 : ∀ w ∈ u_ws RX8 TX8 15, w ∈ wsX8_letterState := by decide +kernel
  have lk_66 := hts (.fieldLink RX8 66 "BalloonMail" "siege" "LBalloonMail$Siege;") (by decide +kernel)
  have lk_44 := hts (.fieldLink RX8 44 "BalloonMail" "current" "LBalloonMail$State;") (by decide +kernel)
  unfold f_X8_letterState at hf
  refine lv_aload_n hx hb dX8_letterState_0 rfl (lv_at hl 0 rfl) ?_
  refine va_get (D := D) (ci := 8) (v := .ref a10) (C := RX8) (T := TX8) (N := 15) hx hb hts in_X8 hown hK hP 0 rfl rfl 13 (by decide) lk_66 (fun _ h9 => h9) rfl dX8_letterState_1 ?_
  refine lv_iload_n hx hb dX8_letterState_4 rfl (lv_at hl 1 rfl) ?_
  obtain ⟨r_1, hc, hf⟩ := ob1_some hf
  refine g_VZ (As := [.int x1]) (rest := []) (ws' := (w_X8_letterState kc a0 a1 a2 a3 a4 a5 a6 a7 a8 a9 a10 a11 a12 a13 a14 a15 a16 a17 a18 a19 a20 a21 a22 a23 a24 a25 a26 a27 a28 textLength errorPlace undoable newest regions balloons letters loft start seed day wind loft2 lost launchCount drawState letters2)) ⟨hx, hb, hml, hown, hts⟩ hN hK hP hD hS hA (c_X5_hasLetter l D kc N a10 a12 a13 a14 a15 a16 a17 a18 a19 regions balloons letters loft start seed x1 r_1 hc) (cwV 1 hts gX8_letterState_X5_hasLetter rfl rfl rfl (by decide +kernel) ⟨Nat.le_of_ble_eq_true rfl, Nat.le_of_ble_eq_true rfl⟩) [1] [0, 2, 3] [0, 3, 1, 2] (by exact ⟨rfl, rfl, by decide, rfl⟩) 1 5 rfl rfl rfl rfl hl.1 rfl (Nat.le_of_ble_eq_true rfl) dX8_letterState_5 ⟨Nat.le_refl _, Nat.le_refl _⟩ (fun H locs hz hP hD hS => ?_)
  have hz_2 := hz
  refine lv_if_eq (tgt := 22) hx hb dX8_letterState_8 (by decide) (fun hc => ?_) (fun hc => ?_)
  · have hf := o_t hc hf
    refine lv_iconst (v := (-1)) hx hb dX8_letterState_22 (by decide) ?_
    cases hf
    exact kR _ _ _ _ hP hD hS dX8_letterState_23
  · have hf := o_f hc hf
    refine lv_aload_n hx hb dX8_letterState_11 rfl (lv_at hl 0 rfl) ?_
    refine va_get (D := D) (ci := 8) (v := .ref a6) (C := RX8) (T := TX8) (N := 15) hx hb hts in_X8 hown hK hP 0 rfl rfl 5 (by decide) lk_44 (fun _ h9 => h9) rfl dX8_letterState_12 ?_
    refine lv_iload_n hx hb dX8_letterState_15 rfl (lv_at hl 1 rfl) ?_
    obtain ⟨r_3, hc, hf⟩ := ob1_some hf
    refine g_VI (As := [.int x1]) (rest := []) (ws' := (w_X8_letterState kc a0 a1 a2 a3 a4 a5 a6 a7 a8 a9 a10 a11 a12 a13 a14 a15 a16 a17 a18 a19 a20 a21 a22 a23 a24 a25 a26 a27 a28 textLength errorPlace undoable newest regions balloons letters loft start seed day wind loft2 lost launchCount drawState letters2)) ⟨hx, hb, hml, hown, hts⟩ hN hK hP hD hS hA (c_X6_stateOfLetter l D kc N a6 a20 a21 a22 a23 a24 a25 a26 a27 a28 day wind loft2 lost launchCount drawState letters2 x1 r_3 hc) (cwV 1 hts gX8_letterState_X6_stateOfLetter rfl rfl rfl (by decide +kernel) ⟨Nat.le_of_ble_eq_true rfl, Nat.le_of_ble_eq_true rfl⟩) [2, 3] [0, 1] [0, 1, 2, 3] (by exact ⟨rfl, rfl, by decide, rfl⟩) 2 6 rfl rfl rfl rfl hl.1 rfl (Nat.le_of_ble_eq_true rfl) dX8_letterState_16 ⟨Nat.le_refl _, Nat.le_refl _⟩ (fun H locs hP hD hS => ?_)
    refine lv_goto (tgt := 23) hx hb dX8_letterState_19 (by decide) ?_
    cases hf
    exact kR _ _ _ _ hP hD hS dX8_letterState_23
abbrev w_X8_answerDay (kc : Nat → ClassId) (a0 a1 a2 a3 a4 a5 a6 a7 a8 a9 a10 a11 a12 a13 a14 a15 a16 a17 a18 a19 a20 a21 a22 a23 a24 a25 a26 a27 a28 : Nat) (textLength : Int32) (errorPlace : Int32) (undoable : Int32) (newest : Int32) (regions : Int32) (balloons : Int32) (letters : Int32) (loft : Int32) (start : Int32) (seed : Int32) (day : Int32) (wind : Int32) (loft2 : Int32) (lost : Int32) (launchCount : Int32) (drawState : Int64) (answeredOn : Nat → Int32) : va_W := [(a0, .inr (8, [.ref a1, .ref a2, .ref a3, .ref a4, .ref a5, .ref a6, .ref a7, .ref a8, .ref a9, .int textLength, .int errorPlace, .int undoable, .int newest, .ref a10, .ref a11])), (a10, .inr (5, [.ref a12, .ref a13, .ref a14, .ref a15, .ref a16, .ref a17, .ref a18, .ref a19, .int regions, .int balloons, .int letters, .int loft, .int start, .int seed])), (a6, .inr (6, [.ref a20, .ref a21, .ref a22, .ref a23, .ref a24, .ref a25, .int day, .int wind, .int loft2, .int lost, .ref a26, .ref a27, .ref a28, .int launchCount, .long drawState])), (a25, .inl (kc 1, 24, .inl answeredOn))]
set_option maxHeartbeats 4000000 in
set_option maxRecDepth 100000 in
theorem c_X8_answerDay (l : Launch) (D : va_G) (kc : Nat → ClassId) (N : Nat) (a0 a1 a2 a3 a4 a5 a6 a7 a8 a9 a10 a11 a12 a13 a14 a15 a16 a17 a18 a19 a20 a21 a22 a23 a24 a25 a26 a27 a28 : Nat) (textLength : Int32) (errorPlace : Int32) (undoable : Int32) (newest : Int32) (regions : Int32) (balloons : Int32) (letters : Int32) (loft : Int32) (start : Int32) (seed : Int32) (day : Int32) (wind : Int32) (loft2 : Int32) (lost : Int32) (launchCount : Int32) (drawState : Int64) (answeredOn : Nat → Int32) (x1 : Int32) (r_ : Int32) (hf : f_X8_answerDay N letters answeredOn x1 = some r_) : MI l yX8_answerDay wsX8_answerDay ({ frames := 1, cells := 0, slots := 0, locals := 21 }) D kc [.ref a0, .int x1] (w_X8_answerDay kc a0 a1 a2 a3 a4 a5 a6 a7 a8 a9 a10 a11 a12 a13 a14 a15 a16 a17 a18 a19 a20 a21 a22 a23 a24 a25 a26 a27 a28 textLength errorPlace undoable newest regions balloons letters loft start seed day wind loft2 lost launchCount drawState answeredOn) (w_X8_answerDay kc a0 a1 a2 a3 a4 a5 a6 a7 a8 a9 a10 a11 a12 a13 a14 a15 a16 a17 a18 a19 a20 a21 a22 a23 a24 a25 a26 a27 a28 textLength errorPlace undoable newest regions balloons letters loft start seed day wind loft2 lost launchCount drawState answeredOn) r_ := by
  refine gM_I (cc := cX8_answerDay) (maxL := 2) (by decide) rfl (Nat.le_of_ble_eq_true rfl) ?_
  intro p e s m below meth c A ls Q hx hb hml hown hts hN hK hP hD hA hl kR
  have hS : va_S A s.heap s.heap [] := va_S.rf
  have hl : lv_has ls 2 [(0, .ref a0), (1, .int x1)] := hl
  have in_X8 : ∀ w ∈ u_ws RX8 TX8 15, w ∈ wsX8_answerDay := by decide +kernel
  have lk_66 := hts (.fieldLink RX8 66 "BalloonMail" "siege" "LBalloonMail$Siege;") (by decide +kernel)
  have lk_44 := hts (.fieldLink RX8 44 "BalloonMail" "current" "LBalloonMail$State;") (by decide +kernel)
  have in_X6 : ∀ w ∈ u_ws RX6 TX6 15, w ∈ wsX8_answerDay := by decide +kernel
  have lk_252 := hts (.fieldLink RX8 252 "BalloonMail$State" "answeredOn" "[I") (by decide +kernel)
  unfold f_X8_answerDay at hf
  refine lv_aload_n hx hb dX8_answerDay_0 rfl (lv_at hl 0 rfl) ?_
  refine va_get (D := D) (ci := 8) (v := .ref a10) (C := RX8) (T := TX8) (N := 15) hx hb hts in_X8 hown hK hP 0 rfl rfl 13 (by decide) lk_66 (fun _ h9 => h9) rfl dX8_answerDay_1 ?_
  refine lv_iload_n hx hb dX8_answerDay_4 rfl (lv_at hl 1 rfl) ?_
  obtain ⟨r_1, hc, hf⟩ := ob1_some hf
  refine g_VZ (As := [.int x1]) (rest := []) (ws' := (w_X8_answerDay kc a0 a1 a2 a3 a4 a5 a6 a7 a8 a9 a10 a11 a12 a13 a14 a15 a16 a17 a18 a19 a20 a21 a22 a23 a24 a25 a26 a27 a28 textLength errorPlace undoable newest regions balloons letters loft start seed day wind loft2 lost launchCount drawState answeredOn)) ⟨hx, hb, hml, hown, hts⟩ hN hK hP hD hS hA (c_X5_hasLetter l D kc N a10 a12 a13 a14 a15 a16 a17 a18 a19 regions balloons letters loft start seed x1 r_1 hc) (cwV 1 hts gX8_answerDay_X5_hasLetter rfl rfl rfl (by decide +kernel) ⟨Nat.le_of_ble_eq_true rfl, Nat.le_of_ble_eq_true rfl⟩) [1] [0, 2, 3] [0, 3, 1, 2] (by exact ⟨rfl, rfl, by decide, rfl⟩) 1 5 rfl rfl rfl rfl hl.1 rfl (Nat.le_of_ble_eq_true rfl) dX8_answerDay_5 ⟨Nat.le_refl _, Nat.le_refl _⟩ (fun H locs hz hP hD hS => ?_)
  have hz_2 := hz
  refine lv_if_eq (tgt := 23) hx hb dX8_answerDay_8 (by decide) (fun hc => ?_) (fun hc => ?_)
  · have hf := o_t hc hf
    refine lv_iconst (v := (-1)) hx hb dX8_answerDay_23 (by decide) ?_
    cases hf
    exact kR _ _ _ _ hP hD hS dX8_answerDay_24
  · have hf := o_f hc hf
    refine lv_aload_n hx hb dX8_answerDay_11 rfl (lv_at hl 0 rfl) ?_
    refine va_get (D := D) (ci := 8) (v := .ref a6) (C := RX8) (T := TX8) (N := 15) hx hb hts in_X8 hown hK hP 0 rfl rfl 5 (by decide) lk_44 (fun _ h9 => h9) rfl dX8_answerDay_12 ?_
    refine va_get (D := D) (ci := 6) (v := .ref a25) (C := RX6) (T := TX6) (N := 15) hx hb hts in_X6 hown hK hP 2 rfl rfl 5 (by decide) lk_252 (fun _ h9 => h9) rfl dX8_answerDay_15 ?_
    refine lv_iload_n hx hb dX8_answerDay_18 rfl (lv_at hl 1 rfl) ?_
    obtain ⟨hi, hf⟩ := gIx_some hf
    refine va_iald hx hb hK hP 3 1 rfl rfl hi dX8_answerDay_19 ?_
    refine lv_goto (tgt := 24) hx hb dX8_answerDay_20 (by decide) ?_
    cases hf
    exact kR _ _ _ _ hP hD hS dX8_answerDay_24
abbrev w_X8_pigeonsInLoft (kc : Nat → ClassId) (a0 a1 a2 a3 a4 a5 a6 a7 a8 a9 a10 a11 a12 a13 a14 a15 a16 a17 a18 a19 a20 : Nat) (textLength : Int32) (errorPlace : Int32) (undoable : Int32) (newest : Int32) (day : Int32) (wind : Int32) (loft : Int32) (lost : Int32) (launchCount : Int32) (drawState : Int64) : va_W := [(a0, .inr (8, [.ref a1, .ref a2, .ref a3, .ref a4, .ref a5, .ref a6, .ref a7, .ref a8, .ref a9, .int textLength, .int errorPlace, .int undoable, .int newest, .ref a10, .ref a11])), (a6, .inr (6, [.ref a12, .ref a13, .ref a14, .ref a15, .ref a16, .ref a17, .int day, .int wind, .int loft, .int lost, .ref a18, .ref a19, .ref a20, .int launchCount, .long drawState]))]
set_option maxHeartbeats 4000000 in
set_option maxRecDepth 100000 in
theorem c_X8_pigeonsInLoft (l : Launch) (D : va_G) (kc : Nat → ClassId) (N : Nat) (a0 a1 a2 a3 a4 a5 a6 a7 a8 a9 a10 a11 a12 a13 a14 a15 a16 a17 a18 a19 a20 : Nat) (textLength : Int32) (errorPlace : Int32) (undoable : Int32) (newest : Int32) (day : Int32) (wind : Int32) (loft : Int32) (lost : Int32) (launchCount : Int32) (drawState : Int64) (r_ : Int32) (hf : f_X8_pigeonsInLoft N loft = some r_) : MI l yX8_pigeonsInLoft wsX8_pigeonsInLoft ({ frames := 0, cells := 0, slots := 0, locals := 0 }) D kc [.ref a0] (w_X8_pigeonsInLoft kc a0 a1 a2 a3 a4 a5 a6 a7 a8 a9 a10 a11 a12 a13 a14 a15 a16 a17 a18 a19 a20 textLength errorPlace undoable newest day wind loft lost launchCount drawState) (w_X8_pigeonsInLoft kc a0 a1 a2 a3 a4 a5 a6 a7 a8 a9 a10 a11 a12 a13 a14 a15 a16 a17 a18 a19 a20 textLength errorPlace undoable newest day wind loft lost launchCount drawState) r_ := by
  refine gM_I (cc := cX8_pigeonsInLoft) (maxL := 1) (by decide) rfl (Nat.le_of_ble_eq_true rfl) ?_
  intro p e s m below meth c A ls Q hx hb hml hown hts hN hK hP hD hA hl kR
  have hS : va_S A s.heap s.heap [] := va_S.rf
  have hl : lv_has ls 1 [(0, .ref a0)] := hl
  have in_X8 : ∀ w ∈ u_ws RX8 TX8 15, w ∈ wsX8_pigeonsInLoft := by decide +kernel
  have lk_44 := hts (.fieldLink RX8 44 "BalloonMail" "current" "LBalloonMail$State;") (by decide +kernel)
  have in_X6 : ∀ w ∈ u_ws RX6 TX6 15, w ∈ wsX8_pigeonsInLoft := by decide +kernel
  have lk_229 := hts (.fieldLink RX8 229 "BalloonMail$State" "loft" "I") (by decide +kernel)
  unfold f_X8_pigeonsInLoft at hf
  refine lv_aload_n hx hb dX8_pigeonsInLoft_0 rfl (lv_at hl 0 rfl) ?_
  refine va_get (D := D) (ci := 8) (v := .ref a6) (C := RX8) (T := TX8) (N := 15) hx hb hts in_X8 hown hK hP 0 rfl rfl 5 (by decide) lk_44 (fun _ h9 => h9) rfl dX8_pigeonsInLoft_1 ?_
  refine va_get (D := D) (ci := 6) (v := .int loft) (C := RX6) (T := TX6) (N := 15) hx hb hts in_X6 hown hK hP 1 rfl rfl 8 (by decide) lk_229 (fun _ h9 => h9) rfl dX8_pigeonsInLoft_4 ?_
  cases hf
  exact kR _ _ _ _ hP hD hS dX8_pigeonsInLoft_7
abbrev w_X8_pigeonsOnTheWay (kc : Nat → ClassId) (a0 a1 a2 a3 a4 a5 a6 a7 a8 a9 a10 a11 a12 a13 a14 a15 a16 a17 a18 a19 a20 a21 a22 a23 a24 a25 a26 a27 a28 : Nat) (textLength : Int32) (errorPlace : Int32) (undoable : Int32) (newest : Int32) (regions : Int32) (balloons : Int32) (letters : Int32) (loft : Int32) (start : Int32) (seed : Int32) (day : Int32) (wind : Int32) (loft2 : Int32) (lost : Int32) (launchCount : Int32) (drawState : Int64) (homing : Nat → Int32) : va_W := [(a0, .inr (8, [.ref a1, .ref a2, .ref a3, .ref a4, .ref a5, .ref a6, .ref a7, .ref a8, .ref a9, .int textLength, .int errorPlace, .int undoable, .int newest, .ref a10, .ref a11])), (a10, .inr (5, [.ref a12, .ref a13, .ref a14, .ref a15, .ref a16, .ref a17, .ref a18, .ref a19, .int regions, .int balloons, .int letters, .int loft, .int start, .int seed])), (a6, .inr (6, [.ref a20, .ref a21, .ref a22, .ref a23, .ref a24, .ref a25, .int day, .int wind, .int loft2, .int lost, .ref a26, .ref a27, .ref a28, .int launchCount, .long drawState])), (a26, .inl (kc 1, 10, .inl homing))]
set_option maxHeartbeats 4000000 in
set_option maxRecDepth 100000 in
theorem c_X8_pigeonsOnTheWay (l : Launch) (D : va_G) (kc : Nat → ClassId) (N : Nat) (a0 a1 a2 a3 a4 a5 a6 a7 a8 a9 a10 a11 a12 a13 a14 a15 a16 a17 a18 a19 a20 a21 a22 a23 a24 a25 a26 a27 a28 : Nat) (textLength : Int32) (errorPlace : Int32) (undoable : Int32) (newest : Int32) (regions : Int32) (balloons : Int32) (letters : Int32) (loft : Int32) (start : Int32) (seed : Int32) (day : Int32) (wind : Int32) (loft2 : Int32) (lost : Int32) (launchCount : Int32) (drawState : Int64) (homing : Nat → Int32) (r_ : Int32) (hf : f_X8_pigeonsOnTheWay N balloons homing = some r_) : MI l yX8_pigeonsOnTheWay wsX8_pigeonsOnTheWay ({ frames := 1, cells := 0, slots := 0, locals := 23 }) D kc [.ref a0] (w_X8_pigeonsOnTheWay kc a0 a1 a2 a3 a4 a5 a6 a7 a8 a9 a10 a11 a12 a13 a14 a15 a16 a17 a18 a19 a20 a21 a22 a23 a24 a25 a26 a27 a28 textLength errorPlace undoable newest regions balloons letters loft start seed day wind loft2 lost launchCount drawState homing) (w_X8_pigeonsOnTheWay kc a0 a1 a2 a3 a4 a5 a6 a7 a8 a9 a10 a11 a12 a13 a14 a15 a16 a17 a18 a19 a20 a21 a22 a23 a24 a25 a26 a27 a28 textLength errorPlace undoable newest regions balloons letters loft start seed day wind loft2 lost launchCount drawState homing) r_ := by
  refine gM_I (cc := cX8_pigeonsOnTheWay) (maxL := 1) (by decide) rfl (Nat.le_of_ble_eq_true rfl) ?_
  intro p e s m below meth c A ls Q hx hb hml hown hts hN hK hP hD hA hl kR
  have hS : va_S A s.heap s.heap [] := va_S.rf
  have hl : lv_has ls 1 [(0, .ref a0)] := hl
  have in_X8 : ∀ w ∈ u_ws RX8 TX8 15, w ∈ wsX8_pigeonsOnTheWay := by decide +kernel
  have lk_44 := hts (.fieldLink RX8 44 "BalloonMail" "current" "LBalloonMail$State;") (by decide +kernel)
  have lk_66 := hts (.fieldLink RX8 66 "BalloonMail" "siege" "LBalloonMail$Siege;") (by decide +kernel)
  unfold f_X8_pigeonsOnTheWay at hf
  refine lv_aload_n hx hb dX8_pigeonsOnTheWay_0 rfl (lv_at hl 0 rfl) ?_
  refine va_get (D := D) (ci := 8) (v := .ref a6) (C := RX8) (T := TX8) (N := 15) hx hb hts in_X8 hown hK hP 0 rfl rfl 5 (by decide) lk_44 (fun _ h9 => h9) rfl dX8_pigeonsOnTheWay_1 ?_
  refine lv_aload_n hx hb dX8_pigeonsOnTheWay_4 rfl (lv_at hl 0 rfl) ?_
  refine va_get (D := D) (ci := 8) (v := .ref a10) (C := RX8) (T := TX8) (N := 15) hx hb hts in_X8 hown hK hP 0 rfl rfl 13 (by decide) lk_66 (fun _ h9 => h9) rfl dX8_pigeonsOnTheWay_5 ?_
  obtain ⟨r_1, hc, hf⟩ := ob1_some hf
  refine g_VI (As := [.ref a10]) (rest := []) (ws' := (w_X8_pigeonsOnTheWay kc a0 a1 a2 a3 a4 a5 a6 a7 a8 a9 a10 a11 a12 a13 a14 a15 a16 a17 a18 a19 a20 a21 a22 a23 a24 a25 a26 a27 a28 textLength errorPlace undoable newest regions balloons letters loft start seed day wind loft2 lost launchCount drawState homing)) ⟨hx, hb, hml, hown, hts⟩ hN hK hP hD hS hA (c_X6_homingPigeons l D kc N a10 a12 a13 a14 a15 a16 a17 a18 a19 a6 a20 a21 a22 a23 a24 a25 a26 a27 a28 regions balloons letters loft start seed day wind loft2 lost launchCount drawState homing r_1 hc) (cwV 1 hts gX8_pigeonsOnTheWay_X6_homingPigeons rfl rfl rfl (by decide +kernel) ⟨Nat.le_of_ble_eq_true rfl, Nat.le_of_ble_eq_true rfl⟩) [1, 2, 3] [0] [0, 1, 2, 3] (by exact ⟨rfl, rfl, by decide, rfl⟩) 2 6 rfl rfl rfl rfl hl.1 rfl (Nat.le_of_ble_eq_true rfl) dX8_pigeonsOnTheWay_8 ⟨Nat.le_refl _, Nat.le_refl _⟩ (fun H locs hP hD hS => ?_)
  cases hf
  exact kR _ _ _ _ hP hD hS dX8_pigeonsOnTheWay_11
abbrev w_X8_pigeonsLost (kc : Nat → ClassId) (a0 a1 a2 a3 a4 a5 a6 a7 a8 a9 a10 a11 a12 a13 a14 a15 a16 a17 a18 a19 a20 : Nat) (textLength : Int32) (errorPlace : Int32) (undoable : Int32) (newest : Int32) (day : Int32) (wind : Int32) (loft : Int32) (lost : Int32) (launchCount : Int32) (drawState : Int64) : va_W := [(a0, .inr (8, [.ref a1, .ref a2, .ref a3, .ref a4, .ref a5, .ref a6, .ref a7, .ref a8, .ref a9, .int textLength, .int errorPlace, .int undoable, .int newest, .ref a10, .ref a11])), (a6, .inr (6, [.ref a12, .ref a13, .ref a14, .ref a15, .ref a16, .ref a17, .int day, .int wind, .int loft, .int lost, .ref a18, .ref a19, .ref a20, .int launchCount, .long drawState]))]
set_option maxHeartbeats 4000000 in
set_option maxRecDepth 100000 in
theorem c_X8_pigeonsLost (l : Launch) (D : va_G) (kc : Nat → ClassId) (N : Nat) (a0 a1 a2 a3 a4 a5 a6 a7 a8 a9 a10 a11 a12 a13 a14 a15 a16 a17 a18 a19 a20 : Nat) (textLength : Int32) (errorPlace : Int32) (undoable : Int32) (newest : Int32) (day : Int32) (wind : Int32) (loft : Int32) (lost : Int32) (launchCount : Int32) (drawState : Int64) (r_ : Int32) (hf : f_X8_pigeonsLost N lost = some r_) : MI l yX8_pigeonsLost wsX8_pigeonsLost ({ frames := 0, cells := 0, slots := 0, locals := 0 }) D kc [.ref a0] (w_X8_pigeonsLost kc a0 a1 a2 a3 a4 a5 a6 a7 a8 a9 a10 a11 a12 a13 a14 a15 a16 a17 a18 a19 a20 textLength errorPlace undoable newest day wind loft lost launchCount drawState) (w_X8_pigeonsLost kc a0 a1 a2 a3 a4 a5 a6 a7 a8 a9 a10 a11 a12 a13 a14 a15 a16 a17 a18 a19 a20 textLength errorPlace undoable newest day wind loft lost launchCount drawState) r_ := by
  refine gM_I (cc := cX8_pigeonsLost) (maxL := 1) (by decide) rfl (Nat.le_of_ble_eq_true rfl) ?_
  intro p e s m below meth c A ls Q hx hb hml hown hts hN hK hP hD hA hl kR
  have hS : va_S A s.heap s.heap [] := va_S.rf
  have hl : lv_has ls 1 [(0, .ref a0)] := hl
  have in_X8 : ∀ w ∈ u_ws RX8 TX8 15, w ∈ wsX8_pigeonsLost := by decide +kernel
  have lk_44 := hts (.fieldLink RX8 44 "BalloonMail" "current" "LBalloonMail$State;") (by decide +kernel)
  have in_X6 : ∀ w ∈ u_ws RX6 TX6 15, w ∈ wsX8_pigeonsLost := by decide +kernel
  have lk_258 := hts (.fieldLink RX8 258 "BalloonMail$State" "lost" "I") (by decide +kernel)
  unfold f_X8_pigeonsLost at hf
  refine lv_aload_n hx hb dX8_pigeonsLost_0 rfl (lv_at hl 0 rfl) ?_
  refine va_get (D := D) (ci := 8) (v := .ref a6) (C := RX8) (T := TX8) (N := 15) hx hb hts in_X8 hown hK hP 0 rfl rfl 5 (by decide) lk_44 (fun _ h9 => h9) rfl dX8_pigeonsLost_1 ?_
  refine va_get (D := D) (ci := 6) (v := .int lost) (C := RX6) (T := TX6) (N := 15) hx hb hts in_X6 hown hK hP 1 rfl rfl 9 (by decide) lk_258 (fun _ h9 => h9) rfl dX8_pigeonsLost_4 ?_
  cases hf
  exact kR _ _ _ _ hP hD hS dX8_pigeonsLost_7
abbrev w_X8_nextReturn (kc : Nat → ClassId) (a0 a1 a2 a3 a4 a5 a6 a7 a8 a9 a10 a11 a12 a13 a14 a15 a16 a17 a18 a19 a20 a21 a22 a23 a24 a25 a26 a27 a28 : Nat) (textLength : Int32) (errorPlace : Int32) (undoable : Int32) (newest : Int32) (regions : Int32) (balloons : Int32) (letters : Int32) (loft : Int32) (start : Int32) (seed : Int32) (day : Int32) (wind : Int32) (loft2 : Int32) (lost : Int32) (launchCount : Int32) (drawState : Int64) (due : Nat → Int32) (homing : Nat → Int32) : va_W := [(a0, .inr (8, [.ref a1, .ref a2, .ref a3, .ref a4, .ref a5, .ref a6, .ref a7, .ref a8, .ref a9, .int textLength, .int errorPlace, .int undoable, .int newest, .ref a10, .ref a11])), (a10, .inr (5, [.ref a12, .ref a13, .ref a14, .ref a15, .ref a16, .ref a17, .ref a18, .ref a19, .int regions, .int balloons, .int letters, .int loft, .int start, .int seed])), (a6, .inr (6, [.ref a20, .ref a21, .ref a22, .ref a23, .ref a24, .ref a25, .int day, .int wind, .int loft2, .int lost, .ref a26, .ref a27, .ref a28, .int launchCount, .long drawState])), (a27, .inl (kc 1, 10, .inl due)), (a26, .inl (kc 1, 10, .inl homing))]
set_option maxHeartbeats 4000000 in
set_option maxRecDepth 100000 in
theorem c_X8_nextReturn (l : Launch) (D : va_G) (kc : Nat → ClassId) (N : Nat) (a0 a1 a2 a3 a4 a5 a6 a7 a8 a9 a10 a11 a12 a13 a14 a15 a16 a17 a18 a19 a20 a21 a22 a23 a24 a25 a26 a27 a28 : Nat) (textLength : Int32) (errorPlace : Int32) (undoable : Int32) (newest : Int32) (regions : Int32) (balloons : Int32) (letters : Int32) (loft : Int32) (start : Int32) (seed : Int32) (day : Int32) (wind : Int32) (loft2 : Int32) (lost : Int32) (launchCount : Int32) (drawState : Int64) (due : Nat → Int32) (homing : Nat → Int32) (r_ : Int32) (hf : f_X8_nextReturn N balloons due homing = some r_) : MI l yX8_nextReturn wsX8_nextReturn ({ frames := 1, cells := 0, slots := 0, locals := 24 }) D kc [.ref a0] (w_X8_nextReturn kc a0 a1 a2 a3 a4 a5 a6 a7 a8 a9 a10 a11 a12 a13 a14 a15 a16 a17 a18 a19 a20 a21 a22 a23 a24 a25 a26 a27 a28 textLength errorPlace undoable newest regions balloons letters loft start seed day wind loft2 lost launchCount drawState due homing) (w_X8_nextReturn kc a0 a1 a2 a3 a4 a5 a6 a7 a8 a9 a10 a11 a12 a13 a14 a15 a16 a17 a18 a19 a20 a21 a22 a23 a24 a25 a26 a27 a28 textLength errorPlace undoable newest regions balloons letters loft start seed day wind loft2 lost launchCount drawState due homing) r_ := by
  refine gM_I (cc := cX8_nextReturn) (maxL := 1) (by decide) rfl (Nat.le_of_ble_eq_true rfl) ?_
  intro p e s m below meth c A ls Q hx hb hml hown hts hN hK hP hD hA hl kR
  have hS : va_S A s.heap s.heap [] := va_S.rf
  have hl : lv_has ls 1 [(0, .ref a0)] := hl
  have in_X8 : ∀ w ∈ u_ws RX8 TX8 15, w ∈ wsX8_nextReturn := by decide +kernel
  have lk_44 := hts (.fieldLink RX8 44 "BalloonMail" "current" "LBalloonMail$State;") (by decide +kernel)
  have lk_66 := hts (.fieldLink RX8 66 "BalloonMail" "siege" "LBalloonMail$Siege;") (by decide +kernel)
  unfold f_X8_nextReturn at hf
  refine lv_aload_n hx hb dX8_nextReturn_0 rfl (lv_at hl 0 rfl) ?_
  refine va_get (D := D) (ci := 8) (v := .ref a6) (C := RX8) (T := TX8) (N := 15) hx hb hts in_X8 hown hK hP 0 rfl rfl 5 (by decide) lk_44 (fun _ h9 => h9) rfl dX8_nextReturn_1 ?_
  refine lv_aload_n hx hb dX8_nextReturn_4 rfl (lv_at hl 0 rfl) ?_
  refine va_get (D := D) (ci := 8) (v := .ref a10) (C := RX8) (T := TX8) (N := 15) hx hb hts in_X8 hown hK hP 0 rfl rfl 13 (by decide) lk_66 (fun _ h9 => h9) rfl dX8_nextReturn_5 ?_
  obtain ⟨r_1, hc, hf⟩ := ob1_some hf
  refine g_VI (As := [.ref a10]) (rest := []) (ws' := (w_X8_nextReturn kc a0 a1 a2 a3 a4 a5 a6 a7 a8 a9 a10 a11 a12 a13 a14 a15 a16 a17 a18 a19 a20 a21 a22 a23 a24 a25 a26 a27 a28 textLength errorPlace undoable newest regions balloons letters loft start seed day wind loft2 lost launchCount drawState due homing)) ⟨hx, hb, hml, hown, hts⟩ hN hK hP hD hS hA (c_X6_earliestReturn l D kc N a10 a12 a13 a14 a15 a16 a17 a18 a19 a6 a20 a21 a22 a23 a24 a25 a26 a27 a28 regions balloons letters loft start seed day wind loft2 lost launchCount drawState due homing r_1 hc) (cwV 1 hts gX8_nextReturn_X6_earliestReturn rfl rfl rfl (by decide +kernel) ⟨Nat.le_of_ble_eq_true rfl, Nat.le_of_ble_eq_true rfl⟩) [1, 2, 3, 4] [0] [0, 1, 2, 3, 4] (by exact ⟨rfl, rfl, by decide, rfl⟩) 2 6 rfl rfl rfl rfl hl.1 rfl (Nat.le_of_ble_eq_true rfl) dX8_nextReturn_8 ⟨Nat.le_refl _, Nat.le_refl _⟩ (fun H locs hP hD hS => ?_)
  cases hf
  exact kR _ _ _ _ hP hD hS dX8_nextReturn_11
abbrev w_X8_weightIn (kc : Nat → ClassId) (a0 a1 a2 a3 a4 a5 a6 a7 a8 a9 a10 a11 a12 a13 a14 a15 a16 a17 a18 a19 a20 a21 a22 a23 a24 a25 a26 a27 a28 : Nat) (textLength : Int32) (errorPlace : Int32) (undoable : Int32) (newest : Int32) (regions : Int32) (balloons : Int32) (letters : Int32) (loft : Int32) (start : Int32) (seed : Int32) (day : Int32) (wind : Int32) (loft2 : Int32) (lost : Int32) (launchCount : Int32) (drawState : Int64) (letters2 : Nat → Int32) (weight : Nat → Int32) : va_W := [(a0, .inr (8, [.ref a1, .ref a2, .ref a3, .ref a4, .ref a5, .ref a6, .ref a7, .ref a8, .ref a9, .int textLength, .int errorPlace, .int undoable, .int newest, .ref a10, .ref a11])), (a10, .inr (5, [.ref a12, .ref a13, .ref a14, .ref a15, .ref a16, .ref a17, .ref a18, .ref a19, .int regions, .int balloons, .int letters, .int loft, .int start, .int seed])), (a6, .inr (6, [.ref a20, .ref a21, .ref a22, .ref a23, .ref a24, .ref a25, .int day, .int wind, .int loft2, .int lost, .ref a26, .ref a27, .ref a28, .int launchCount, .long drawState])), (a24, .inl (kc 1, 4, .inl letters2)), (a18, .inl (kc 1, 24, .inl weight))]
set_option maxHeartbeats 4000000 in
set_option maxRecDepth 100000 in
theorem c_X8_weightIn (l : Launch) (D : va_G) (kc : Nat → ClassId) (N : Nat) (a0 a1 a2 a3 a4 a5 a6 a7 a8 a9 a10 a11 a12 a13 a14 a15 a16 a17 a18 a19 a20 a21 a22 a23 a24 a25 a26 a27 a28 : Nat) (textLength : Int32) (errorPlace : Int32) (undoable : Int32) (newest : Int32) (regions : Int32) (balloons : Int32) (letters : Int32) (loft : Int32) (start : Int32) (seed : Int32) (day : Int32) (wind : Int32) (loft2 : Int32) (lost : Int32) (launchCount : Int32) (drawState : Int64) (letters2 : Nat → Int32) (weight : Nat → Int32) (x1 : Int32) (r_ : Int32) (hf : f_X8_weightIn N letters letters2 weight x1 = some r_) : MI l yX8_weightIn wsX8_weightIn ({ frames := 1, cells := 0, slots := 0, locals := 24 }) D kc [.ref a0, .int x1] (w_X8_weightIn kc a0 a1 a2 a3 a4 a5 a6 a7 a8 a9 a10 a11 a12 a13 a14 a15 a16 a17 a18 a19 a20 a21 a22 a23 a24 a25 a26 a27 a28 textLength errorPlace undoable newest regions balloons letters loft start seed day wind loft2 lost launchCount drawState letters2 weight) (w_X8_weightIn kc a0 a1 a2 a3 a4 a5 a6 a7 a8 a9 a10 a11 a12 a13 a14 a15 a16 a17 a18 a19 a20 a21 a22 a23 a24 a25 a26 a27 a28 textLength errorPlace undoable newest regions balloons letters loft start seed day wind loft2 lost launchCount drawState letters2 weight) r_ := by
  refine gM_I (cc := cX8_weightIn) (maxL := 2) (by decide) rfl (Nat.le_of_ble_eq_true rfl) ?_
  intro p e s m below meth c A ls Q hx hb hml hown hts hN hK hP hD hA hl kR
  have hS : va_S A s.heap s.heap [] := va_S.rf
  have hl : lv_has ls 2 [(0, .ref a0), (1, .int x1)] := hl
  have in_X8 : ∀ w ∈ u_ws RX8 TX8 15, w ∈ wsX8_weightIn := by decide +kernel
  have lk_66 := hts (.fieldLink RX8 66 "BalloonMail" "siege" "LBalloonMail$Siege;") (by decide +kernel)
  have in_X5 : ∀ w ∈ u_ws RX5 TX5 14, w ∈ wsX8_weightIn := by decide +kernel
  have lk_129 := hts (.fieldLink RX8 129 "BalloonMail$Siege" "weight" "[I") (by decide +kernel)
  have lk_44 := hts (.fieldLink RX8 44 "BalloonMail" "current" "LBalloonMail$State;") (by decide +kernel)
  have in_X6 : ∀ w ∈ u_ws RX6 TX6 15, w ∈ wsX8_weightIn := by decide +kernel
  have lk_208 := hts (.fieldLink RX8 208 "BalloonMail$State" "letters" "[I") (by decide +kernel)
  unfold f_X8_weightIn at hf
  refine lv_iload_n hx hb dX8_weightIn_0 rfl (lv_at hl 1 rfl) ?_
  obtain ⟨r_1, hc, hf⟩ := ob1_some hf
  refine g_SZ (As := [.int x1]) (rest := []) (ws' := (w_X8_weightIn kc a0 a1 a2 a3 a4 a5 a6 a7 a8 a9 a10 a11 a12 a13 a14 a15 a16 a17 a18 a19 a20 a21 a22 a23 a24 a25 a26 a27 a28 textLength errorPlace undoable newest regions balloons letters loft start seed day wind loft2 lost launchCount drawState letters2 weight)) ⟨hx, hb, hml, hown, hts⟩ hN hK hP hD hS hA (c_X8_isLetterState l D kc N x1 r_1 hc) (va_cwS 1 hts gX8_weightIn_X8_isLetterState rfl rfl rfl (by decide +kernel) ⟨Nat.le_of_ble_eq_true rfl, Nat.le_of_ble_eq_true rfl⟩) [] [0, 1, 2, 3, 4] [0, 1, 2, 3, 4] (by exact ⟨rfl, rfl, by decide, rfl⟩) rfl hl.1 rfl (Nat.le_of_ble_eq_true rfl) dX8_weightIn_1 ⟨Nat.le_refl _, Nat.le_refl _⟩ (fun H locs hz hP hD hS => ?_)
  have hz_2 := hz
  refine lv_if_ne (tgt := 9) hx hb dX8_weightIn_4 (by decide) (fun hc => ?_) (fun hc => ?_)
  · have hf := o_f hc hf
    refine lv_aload_n hx hb dX8_weightIn_9 rfl (lv_at hl 0 rfl) ?_
    refine va_get (D := D) (ci := 8) (v := .ref a10) (C := RX8) (T := TX8) (N := 15) hx hb hts in_X8 hown hK hP 0 rfl rfl 13 (by decide) lk_66 (fun _ h9 => h9) rfl dX8_weightIn_10 ?_
    refine lv_aload_n hx hb dX8_weightIn_13 rfl (lv_at hl 0 rfl) ?_
    refine va_get (D := D) (ci := 8) (v := .ref a10) (C := RX8) (T := TX8) (N := 15) hx hb hts in_X8 hown hK hP 0 rfl rfl 13 (by decide) lk_66 (fun _ h9 => h9) rfl dX8_weightIn_14 ?_
    refine va_get (D := D) (ci := 5) (v := .ref a18) (C := RX5) (T := TX5) (N := 14) hx hb hts in_X5 hown hK hP 1 rfl rfl 6 (by decide) lk_129 (fun _ h9 => h9) rfl dX8_weightIn_17 ?_
    refine lv_aload_n hx hb dX8_weightIn_20 rfl (lv_at hl 0 rfl) ?_
    refine va_get (D := D) (ci := 8) (v := .ref a6) (C := RX8) (T := TX8) (N := 15) hx hb hts in_X8 hown hK hP 0 rfl rfl 5 (by decide) lk_44 (fun _ h9 => h9) rfl dX8_weightIn_21 ?_
    refine va_get (D := D) (ci := 6) (v := .ref a24) (C := RX6) (T := TX6) (N := 15) hx hb hts in_X6 hown hK hP 2 rfl rfl 4 (by decide) lk_208 (fun _ h9 => h9) rfl dX8_weightIn_24 ?_
    refine lv_iload_n hx hb dX8_weightIn_27 rfl (lv_at hl 1 rfl) ?_
    obtain ⟨hi, hf⟩ := gIx_some hf
    refine va_iald hx hb hK hP 3 1 rfl rfl hi dX8_weightIn_28 ?_
    obtain ⟨r_3, hc, hf⟩ := ob1_some hf
    refine g_VI (As := [.ref a18, .int (letters2 (x1 : Int32).toNatClampNeg)]) (rest := []) (ws' := (w_X8_weightIn kc a0 a1 a2 a3 a4 a5 a6 a7 a8 a9 a10 a11 a12 a13 a14 a15 a16 a17 a18 a19 a20 a21 a22 a23 a24 a25 a26 a27 a28 textLength errorPlace undoable newest regions balloons letters loft start seed day wind loft2 lost launchCount drawState letters2 weight)) ⟨hx, hb, hml, hown, hts⟩ hN hK hP hD hS hA (c_X5_total l D kc N a10 a12 a13 a14 a15 a16 a17 a18 a19 a18 24 regions balloons letters loft start seed weight (letters2 (x1 : Int32).toNatClampNeg) r_3 hc) (cwV 2 hts gX8_weightIn_X5_total rfl rfl rfl (by decide +kernel) ⟨Nat.le_of_ble_eq_true rfl, Nat.le_of_ble_eq_true rfl⟩) [1, 4] [0, 2, 3] [0, 3, 1, 2, 4] (by exact ⟨rfl, rfl, by decide, rfl⟩) 1 5 rfl rfl rfl rfl hl.1 rfl (Nat.le_of_ble_eq_true rfl) dX8_weightIn_29 ⟨Nat.le_refl _, Nat.le_refl _⟩ (fun H locs hP hD hS => ?_)
    cases hf
    exact kR _ _ _ _ hP hD hS dX8_weightIn_32
  · have hf := o_t hc hf
    refine lv_iconst (v := (-1)) hx hb dX8_weightIn_7 (by decide) ?_
    cases hf
    exact kR _ _ _ _ hP hD hS dX8_weightIn_8
abbrev w_X8_answeredPriority (kc : Nat → ClassId) (a0 a1 a2 a3 a4 a5 a6 a7 a8 a9 a10 a11 a12 a13 a14 a15 a16 a17 a18 a19 a20 a21 a22 a23 a24 a25 a26 a27 a28 : Nat) (textLength : Int32) (errorPlace : Int32) (undoable : Int32) (newest : Int32) (regions : Int32) (balloons : Int32) (letters : Int32) (loft : Int32) (start : Int32) (seed : Int32) (day : Int32) (wind : Int32) (loft2 : Int32) (lost : Int32) (launchCount : Int32) (drawState : Int64) (letters2 : Nat → Int32) (priority : Nat → Int32) : va_W := [(a0, .inr (8, [.ref a1, .ref a2, .ref a3, .ref a4, .ref a5, .ref a6, .ref a7, .ref a8, .ref a9, .int textLength, .int errorPlace, .int undoable, .int newest, .ref a10, .ref a11])), (a10, .inr (5, [.ref a12, .ref a13, .ref a14, .ref a15, .ref a16, .ref a17, .ref a18, .ref a19, .int regions, .int balloons, .int letters, .int loft, .int start, .int seed])), (a6, .inr (6, [.ref a20, .ref a21, .ref a22, .ref a23, .ref a24, .ref a25, .int day, .int wind, .int loft2, .int lost, .ref a26, .ref a27, .ref a28, .int launchCount, .long drawState])), (a24, .inl (kc 1, 4, .inl letters2)), (a19, .inl (kc 1, 24, .inl priority))]
set_option maxHeartbeats 4000000 in
set_option maxRecDepth 100000 in
theorem c_X8_answeredPriority (l : Launch) (D : va_G) (kc : Nat → ClassId) (N : Nat) (a0 a1 a2 a3 a4 a5 a6 a7 a8 a9 a10 a11 a12 a13 a14 a15 a16 a17 a18 a19 a20 a21 a22 a23 a24 a25 a26 a27 a28 : Nat) (textLength : Int32) (errorPlace : Int32) (undoable : Int32) (newest : Int32) (regions : Int32) (balloons : Int32) (letters : Int32) (loft : Int32) (start : Int32) (seed : Int32) (day : Int32) (wind : Int32) (loft2 : Int32) (lost : Int32) (launchCount : Int32) (drawState : Int64) (letters2 : Nat → Int32) (priority : Nat → Int32) (r_ : Int32) (hf : f_X8_answeredPriority N letters letters2 priority = some r_) : MI l yX8_answeredPriority wsX8_answeredPriority ({ frames := 1, cells := 0, slots := 0, locals := 24 }) D kc [.ref a0] (w_X8_answeredPriority kc a0 a1 a2 a3 a4 a5 a6 a7 a8 a9 a10 a11 a12 a13 a14 a15 a16 a17 a18 a19 a20 a21 a22 a23 a24 a25 a26 a27 a28 textLength errorPlace undoable newest regions balloons letters loft start seed day wind loft2 lost launchCount drawState letters2 priority) (w_X8_answeredPriority kc a0 a1 a2 a3 a4 a5 a6 a7 a8 a9 a10 a11 a12 a13 a14 a15 a16 a17 a18 a19 a20 a21 a22 a23 a24 a25 a26 a27 a28 textLength errorPlace undoable newest regions balloons letters loft start seed day wind loft2 lost launchCount drawState letters2 priority) r_ := by
  refine gM_I (cc := cX8_answeredPriority) (maxL := 1) (by decide) rfl (Nat.le_of_ble_eq_true rfl) ?_
  intro p e s m below meth c A ls Q hx hb hml hown hts hN hK hP hD hA hl kR
  have hS : va_S A s.heap s.heap [] := va_S.rf
  have hl : lv_has ls 1 [(0, .ref a0)] := hl
  have in_X8 : ∀ w ∈ u_ws RX8 TX8 15, w ∈ wsX8_answeredPriority := by decide +kernel
  have lk_66 := hts (.fieldLink RX8 66 "BalloonMail" "siege" "LBalloonMail$Siege;") (by decide +kernel)
  have in_X5 : ∀ w ∈ u_ws RX5 TX5 14, w ∈ wsX8_answeredPriority := by decide +kernel
  have lk_220 := hts (.fieldLink RX8 220 "BalloonMail$Siege" "priority" "[I") (by decide +kernel)
  have lk_44 := hts (.fieldLink RX8 44 "BalloonMail" "current" "LBalloonMail$State;") (by decide +kernel)
  have in_X6 : ∀ w ∈ u_ws RX6 TX6 15, w ∈ wsX8_answeredPriority := by decide +kernel
  have lk_208 := hts (.fieldLink RX8 208 "BalloonMail$State" "letters" "[I") (by decide +kernel)
  unfold f_X8_answeredPriority at hf
  refine lv_aload_n hx hb dX8_answeredPriority_0 rfl (lv_at hl 0 rfl) ?_
  refine va_get (D := D) (ci := 8) (v := .ref a10) (C := RX8) (T := TX8) (N := 15) hx hb hts in_X8 hown hK hP 0 rfl rfl 13 (by decide) lk_66 (fun _ h9 => h9) rfl dX8_answeredPriority_1 ?_
  refine lv_aload_n hx hb dX8_answeredPriority_4 rfl (lv_at hl 0 rfl) ?_
  refine va_get (D := D) (ci := 8) (v := .ref a10) (C := RX8) (T := TX8) (N := 15) hx hb hts in_X8 hown hK hP 0 rfl rfl 13 (by decide) lk_66 (fun _ h9 => h9) rfl dX8_answeredPriority_5 ?_
  refine va_get (D := D) (ci := 5) (v := .ref a19) (C := RX5) (T := TX5) (N := 14) hx hb hts in_X5 hown hK hP 1 rfl rfl 7 (by decide) lk_220 (fun _ h9 => h9) rfl dX8_answeredPriority_8 ?_
  refine lv_aload_n hx hb dX8_answeredPriority_11 rfl (lv_at hl 0 rfl) ?_
  refine va_get (D := D) (ci := 8) (v := .ref a6) (C := RX8) (T := TX8) (N := 15) hx hb hts in_X8 hown hK hP 0 rfl rfl 5 (by decide) lk_44 (fun _ h9 => h9) rfl dX8_answeredPriority_12 ?_
  refine va_get (D := D) (ci := 6) (v := .ref a24) (C := RX6) (T := TX6) (N := 15) hx hb hts in_X6 hown hK hP 2 rfl rfl 4 (by decide) lk_208 (fun _ h9 => h9) rfl dX8_answeredPriority_15 ?_
  refine lv_iconst (v := 3) hx hb dX8_answeredPriority_18 (by decide) ?_
  obtain ⟨hi, hf⟩ := gIx_some hf
  refine va_iald hx hb hK hP 3 1 rfl rfl hi dX8_answeredPriority_19 ?_
  obtain ⟨r_1, hc, hf⟩ := ob1_some hf
  refine g_VI (As := [.ref a19, .int (letters2 (3 : Int32).toNatClampNeg)]) (rest := []) (ws' := (w_X8_answeredPriority kc a0 a1 a2 a3 a4 a5 a6 a7 a8 a9 a10 a11 a12 a13 a14 a15 a16 a17 a18 a19 a20 a21 a22 a23 a24 a25 a26 a27 a28 textLength errorPlace undoable newest regions balloons letters loft start seed day wind loft2 lost launchCount drawState letters2 priority)) ⟨hx, hb, hml, hown, hts⟩ hN hK hP hD hS hA (c_X5_total l D kc N a10 a12 a13 a14 a15 a16 a17 a18 a19 a19 24 regions balloons letters loft start seed priority (letters2 (3 : Int32).toNatClampNeg) r_1 hc) (cwV 2 hts gX8_answeredPriority_X5_total rfl rfl rfl (by decide +kernel) ⟨Nat.le_of_ble_eq_true rfl, Nat.le_of_ble_eq_true rfl⟩) [1, 4] [0, 2, 3] [0, 3, 1, 2, 4] (by exact ⟨rfl, rfl, by decide, rfl⟩) 1 5 rfl rfl rfl rfl hl.1 rfl (Nat.le_of_ble_eq_true rfl) dX8_answeredPriority_20 ⟨Nat.le_refl _, Nat.le_refl _⟩ (fun H locs hP hD hS => ?_)
  cases hf
  exact kR _ _ _ _ hP hD hS dX8_answeredPriority_23
abbrev w_X8_balloonsIn (kc : Nat → ClassId) (a0 a1 a2 a3 a4 a5 a6 a7 a8 a9 a10 a11 a12 a13 a14 a15 a16 a17 a18 a19 a20 a21 a22 a23 a24 a25 a26 a27 a28 : Nat) (textLength : Int32) (errorPlace : Int32) (undoable : Int32) (newest : Int32) (regions : Int32) (balloons : Int32) (letters : Int32) (loft : Int32) (start : Int32) (seed : Int32) (day : Int32) (wind : Int32) (loft2 : Int32) (lost : Int32) (launchCount : Int32) (drawState : Int64) (balloonRegion : Nat → Int32) : va_W := [(a0, .inr (8, [.ref a1, .ref a2, .ref a3, .ref a4, .ref a5, .ref a6, .ref a7, .ref a8, .ref a9, .int textLength, .int errorPlace, .int undoable, .int newest, .ref a10, .ref a11])), (a10, .inr (5, [.ref a12, .ref a13, .ref a14, .ref a15, .ref a16, .ref a17, .ref a18, .ref a19, .int regions, .int balloons, .int letters, .int loft, .int start, .int seed])), (a6, .inr (6, [.ref a20, .ref a21, .ref a22, .ref a23, .ref a24, .ref a25, .int day, .int wind, .int loft2, .int lost, .ref a26, .ref a27, .ref a28, .int launchCount, .long drawState])), (a22, .inl (kc 1, 10, .inl balloonRegion))]
set_option maxHeartbeats 4000000 in
set_option maxRecDepth 100000 in
theorem c_X8_balloonsIn (l : Launch) (D : va_G) (kc : Nat → ClassId) (N : Nat) (a0 a1 a2 a3 a4 a5 a6 a7 a8 a9 a10 a11 a12 a13 a14 a15 a16 a17 a18 a19 a20 a21 a22 a23 a24 a25 a26 a27 a28 : Nat) (textLength : Int32) (errorPlace : Int32) (undoable : Int32) (newest : Int32) (regions : Int32) (balloons : Int32) (letters : Int32) (loft : Int32) (start : Int32) (seed : Int32) (day : Int32) (wind : Int32) (loft2 : Int32) (lost : Int32) (launchCount : Int32) (drawState : Int64) (balloonRegion : Nat → Int32) (x1 : Int32) (r_ : Int32) (hf : f_X8_balloonsIn N regions balloons balloonRegion x1 = some r_) : MI l yX8_balloonsIn wsX8_balloonsIn ({ frames := 1, cells := 0, slots := 0, locals := 24 }) D kc [.ref a0, .int x1] (w_X8_balloonsIn kc a0 a1 a2 a3 a4 a5 a6 a7 a8 a9 a10 a11 a12 a13 a14 a15 a16 a17 a18 a19 a20 a21 a22 a23 a24 a25 a26 a27 a28 textLength errorPlace undoable newest regions balloons letters loft start seed day wind loft2 lost launchCount drawState balloonRegion) (w_X8_balloonsIn kc a0 a1 a2 a3 a4 a5 a6 a7 a8 a9 a10 a11 a12 a13 a14 a15 a16 a17 a18 a19 a20 a21 a22 a23 a24 a25 a26 a27 a28 textLength errorPlace undoable newest regions balloons letters loft start seed day wind loft2 lost launchCount drawState balloonRegion) r_ := by
  refine gM_I (cc := cX8_balloonsIn) (maxL := 2) (by decide) rfl (Nat.le_of_ble_eq_true rfl) ?_
  intro p e s m below meth c A ls Q hx hb hml hown hts hN hK hP hD hA hl kR
  have hS : va_S A s.heap s.heap [] := va_S.rf
  have hl : lv_has ls 2 [(0, .ref a0), (1, .int x1)] := hl
  have in_X8 : ∀ w ∈ u_ws RX8 TX8 15, w ∈ wsX8_balloonsIn := by decide +kernel
  have lk_66 := hts (.fieldLink RX8 66 "BalloonMail" "siege" "LBalloonMail$Siege;") (by decide +kernel)
  have lk_44 := hts (.fieldLink RX8 44 "BalloonMail" "current" "LBalloonMail$State;") (by decide +kernel)
  unfold f_X8_balloonsIn at hf
  refine lv_aload_n hx hb dX8_balloonsIn_0 rfl (lv_at hl 0 rfl) ?_
  refine va_get (D := D) (ci := 8) (v := .ref a10) (C := RX8) (T := TX8) (N := 15) hx hb hts in_X8 hown hK hP 0 rfl rfl 13 (by decide) lk_66 (fun _ h9 => h9) rfl dX8_balloonsIn_1 ?_
  refine lv_iload_n hx hb dX8_balloonsIn_4 rfl (lv_at hl 1 rfl) ?_
  obtain ⟨r_1, hc, hf⟩ := ob1_some hf
  refine g_VZ (As := [.int x1]) (rest := []) (ws' := (w_X8_balloonsIn kc a0 a1 a2 a3 a4 a5 a6 a7 a8 a9 a10 a11 a12 a13 a14 a15 a16 a17 a18 a19 a20 a21 a22 a23 a24 a25 a26 a27 a28 textLength errorPlace undoable newest regions balloons letters loft start seed day wind loft2 lost launchCount drawState balloonRegion)) ⟨hx, hb, hml, hown, hts⟩ hN hK hP hD hS hA (c_X5_hasRegion l D kc N a10 a12 a13 a14 a15 a16 a17 a18 a19 regions balloons letters loft start seed x1 r_1 hc) (cwV 1 hts gX8_balloonsIn_X5_hasRegion rfl rfl rfl (by decide +kernel) ⟨Nat.le_of_ble_eq_true rfl, Nat.le_of_ble_eq_true rfl⟩) [1] [0, 2, 3] [0, 3, 1, 2] (by exact ⟨rfl, rfl, by decide, rfl⟩) 1 5 rfl rfl rfl rfl hl.1 rfl (Nat.le_of_ble_eq_true rfl) dX8_balloonsIn_5 ⟨Nat.le_refl _, Nat.le_refl _⟩ (fun H locs hz hP hD hS => ?_)
  have hz_2 := hz
  refine lv_if_eq (tgt := 26) hx hb dX8_balloonsIn_8 (by decide) (fun hc => ?_) (fun hc => ?_)
  · have hf := o_t hc hf
    refine lv_iconst (v := (-1)) hx hb dX8_balloonsIn_26 (by decide) ?_
    cases hf
    exact kR _ _ _ _ hP hD hS dX8_balloonsIn_27
  · have hf := o_f hc hf
    refine lv_aload_n hx hb dX8_balloonsIn_11 rfl (lv_at hl 0 rfl) ?_
    refine va_get (D := D) (ci := 8) (v := .ref a6) (C := RX8) (T := TX8) (N := 15) hx hb hts in_X8 hown hK hP 0 rfl rfl 5 (by decide) lk_44 (fun _ h9 => h9) rfl dX8_balloonsIn_12 ?_
    refine lv_aload_n hx hb dX8_balloonsIn_15 rfl (lv_at hl 0 rfl) ?_
    refine va_get (D := D) (ci := 8) (v := .ref a10) (C := RX8) (T := TX8) (N := 15) hx hb hts in_X8 hown hK hP 0 rfl rfl 13 (by decide) lk_66 (fun _ h9 => h9) rfl dX8_balloonsIn_16 ?_
    refine lv_iload_n hx hb dX8_balloonsIn_19 rfl (lv_at hl 1 rfl) ?_
    obtain ⟨r_3, hc, hf⟩ := ob1_some hf
    refine g_VI (As := [.ref a10, .int x1]) (rest := []) (ws' := (w_X8_balloonsIn kc a0 a1 a2 a3 a4 a5 a6 a7 a8 a9 a10 a11 a12 a13 a14 a15 a16 a17 a18 a19 a20 a21 a22 a23 a24 a25 a26 a27 a28 textLength errorPlace undoable newest regions balloons letters loft start seed day wind loft2 lost launchCount drawState balloonRegion)) ⟨hx, hb, hml, hown, hts⟩ hN hK hP hD hS hA (c_X6_cameDownIn l D kc N a10 a12 a13 a14 a15 a16 a17 a18 a19 a6 a20 a21 a22 a23 a24 a25 a26 a27 a28 regions balloons letters loft start seed day wind loft2 lost launchCount drawState balloonRegion x1 r_3 hc) (cwV 2 hts gX8_balloonsIn_X6_cameDownIn rfl rfl rfl (by decide +kernel) ⟨Nat.le_of_ble_eq_true rfl, Nat.le_of_ble_eq_true rfl⟩) [1, 2, 3] [0] [0, 1, 2, 3] (by exact ⟨rfl, rfl, by decide, rfl⟩) 2 6 rfl rfl rfl rfl hl.1 rfl (Nat.le_of_ble_eq_true rfl) dX8_balloonsIn_20 ⟨Nat.le_refl _, Nat.le_refl _⟩ (fun H locs hP hD hS => ?_)
    refine lv_goto (tgt := 27) hx hb dX8_balloonsIn_23 (by decide) ?_
    cases hf
    exact kR _ _ _ _ hP hD hS dX8_balloonsIn_27
abbrev w_X8_eventCount (kc : Nat → ClassId) (a0 a1 a2 a3 a4 a5 a6 a7 a8 a9 a10 a11 a12 a13 a14 a15 a16 a17 a18 a19 a20 a21 a22 a23 : Nat) (textLength : Int32) (errorPlace : Int32) (undoable : Int32) (newest : Int32) (day : Int32) (wind : Int32) (loft : Int32) (lost : Int32) (launchCount : Int32) (drawState : Int64) (count : Int32) : va_W := [(a0, .inr (8, [.ref a1, .ref a2, .ref a3, .ref a4, .ref a5, .ref a6, .ref a7, .ref a8, .ref a9, .int textLength, .int errorPlace, .int undoable, .int newest, .ref a10, .ref a11])), (a6, .inr (6, [.ref a12, .ref a13, .ref a14, .ref a15, .ref a16, .ref a17, .int day, .int wind, .int loft, .int lost, .ref a18, .ref a19, .ref a20, .int launchCount, .long drawState])), (a12, .inr (1, [.ref a21, .ref a22, .ref a23, .int count]))]
set_option maxHeartbeats 4000000 in
set_option maxRecDepth 100000 in
theorem c_X8_eventCount (l : Launch) (D : va_G) (kc : Nat → ClassId) (N : Nat) (a0 a1 a2 a3 a4 a5 a6 a7 a8 a9 a10 a11 a12 a13 a14 a15 a16 a17 a18 a19 a20 a21 a22 a23 : Nat) (textLength : Int32) (errorPlace : Int32) (undoable : Int32) (newest : Int32) (day : Int32) (wind : Int32) (loft : Int32) (lost : Int32) (launchCount : Int32) (drawState : Int64) (count : Int32) (r_ : Int32) (hf : f_X8_eventCount N count = some r_) : MI l yX8_eventCount wsX8_eventCount ({ frames := 0, cells := 0, slots := 0, locals := 0 }) D kc [.ref a0] (w_X8_eventCount kc a0 a1 a2 a3 a4 a5 a6 a7 a8 a9 a10 a11 a12 a13 a14 a15 a16 a17 a18 a19 a20 a21 a22 a23 textLength errorPlace undoable newest day wind loft lost launchCount drawState count) (w_X8_eventCount kc a0 a1 a2 a3 a4 a5 a6 a7 a8 a9 a10 a11 a12 a13 a14 a15 a16 a17 a18 a19 a20 a21 a22 a23 textLength errorPlace undoable newest day wind loft lost launchCount drawState count) r_ := by
  refine gM_I (cc := cX8_eventCount) (maxL := 1) (by decide) rfl (Nat.le_of_ble_eq_true rfl) ?_
  intro p e s m below meth c A ls Q hx hb hml hown hts hN hK hP hD hA hl kR
  have hS : va_S A s.heap s.heap [] := va_S.rf
  have hl : lv_has ls 1 [(0, .ref a0)] := hl
  have in_X8 : ∀ w ∈ u_ws RX8 TX8 15, w ∈ wsX8_eventCount := by decide +kernel
  have lk_44 := hts (.fieldLink RX8 44 "BalloonMail" "current" "LBalloonMail$State;") (by decide +kernel)
  have in_X6 : ∀ w ∈ u_ws RX6 TX6 15, w ∈ wsX8_eventCount := by decide +kernel
  have lk_268 := hts (.fieldLink RX8 268 "BalloonMail$State" "journal" "LBalloonMail$Journal;") (by decide +kernel)
  have in_X1 : ∀ w ∈ u_ws RX1 TX1 4, w ∈ wsX8_eventCount := by decide +kernel
  have lk_272 := hts (.fieldLink RX8 272 "BalloonMail$Journal" "count" "I") (by decide +kernel)
  unfold f_X8_eventCount at hf
  refine lv_aload_n hx hb dX8_eventCount_0 rfl (lv_at hl 0 rfl) ?_
  refine va_get (D := D) (ci := 8) (v := .ref a6) (C := RX8) (T := TX8) (N := 15) hx hb hts in_X8 hown hK hP 0 rfl rfl 5 (by decide) lk_44 (fun _ h9 => h9) rfl dX8_eventCount_1 ?_
  refine va_get (D := D) (ci := 6) (v := .ref a12) (C := RX6) (T := TX6) (N := 15) hx hb hts in_X6 hown hK hP 1 rfl rfl 0 (by decide) lk_268 (fun _ h9 => h9) rfl dX8_eventCount_4 ?_
  refine va_get (D := D) (ci := 1) (v := .int count) (C := RX1) (T := TX1) (N := 4) hx hb hts in_X1 hown hK hP 2 rfl rfl 3 (by decide) lk_272 (fun _ h9 => h9) rfl dX8_eventCount_7 ?_
  cases hf
  exact kR _ _ _ _ hP hD hS dX8_eventCount_10
abbrev w_X8_undoDepth (kc : Nat → ClassId) (a0 a1 a2 a3 a4 a5 a6 a7 a8 a9 a10 a11 : Nat) (textLength : Int32) (errorPlace : Int32) (undoable : Int32) (newest : Int32) : va_W := [(a0, .inr (8, [.ref a1, .ref a2, .ref a3, .ref a4, .ref a5, .ref a6, .ref a7, .ref a8, .ref a9, .int textLength, .int errorPlace, .int undoable, .int newest, .ref a10, .ref a11]))]
set_option maxHeartbeats 4000000 in
set_option maxRecDepth 100000 in
theorem c_X8_undoDepth (l : Launch) (D : va_G) (kc : Nat → ClassId) (N : Nat) (a0 a1 a2 a3 a4 a5 a6 a7 a8 a9 a10 a11 : Nat) (textLength : Int32) (errorPlace : Int32) (undoable : Int32) (newest : Int32) (r_ : Int32) (hf : f_X8_undoDepth N undoable = some r_) : MI l yX8_undoDepth wsX8_undoDepth ({ frames := 0, cells := 0, slots := 0, locals := 0 }) D kc [.ref a0] (w_X8_undoDepth kc a0 a1 a2 a3 a4 a5 a6 a7 a8 a9 a10 a11 textLength errorPlace undoable newest) (w_X8_undoDepth kc a0 a1 a2 a3 a4 a5 a6 a7 a8 a9 a10 a11 textLength errorPlace undoable newest) r_ := by
  refine gM_I (cc := cX8_undoDepth) (maxL := 1) (by decide) rfl (Nat.le_of_ble_eq_true rfl) ?_
  intro p e s m below meth c A ls Q hx hb hml hown hts hN hK hP hD hA hl kR
  have hS : va_S A s.heap s.heap [] := va_S.rf
  have hl : lv_has ls 1 [(0, .ref a0)] := hl
  have in_X8 : ∀ w ∈ u_ws RX8 TX8 15, w ∈ wsX8_undoDepth := by decide +kernel
  have lk_97 := hts (.fieldLink RX8 97 "BalloonMail" "undoable" "I") (by decide +kernel)
  unfold f_X8_undoDepth at hf
  refine lv_aload_n hx hb dX8_undoDepth_0 rfl (lv_at hl 0 rfl) ?_
  refine va_get (D := D) (ci := 8) (v := .int undoable) (C := RX8) (T := TX8) (N := 15) hx hb hts in_X8 hown hK hP 0 rfl rfl 11 (by decide) lk_97 (fun _ h9 => h9) rfl dX8_undoDepth_1 ?_
  cases hf
  exact kR _ _ _ _ hP hD hS dX8_undoDepth_4
