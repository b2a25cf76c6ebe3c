abbrev w_X4_fail (kc : Nat → ClassId) (a0 a1 : Nat) (start : Int32) (end_ : Int32) (place : Int32) (kind : Int32) (value : Int32) (code : Int32) (loftRead : Int32) (startRead : Int32) (seedRead : Int32) : va_W := [(a0, .inr (4, [.int start, .ref a1, .int end_, .int place, .int kind, .int value, .int code, .int loftRead, .int startRead, .int seedRead]))]
set_option maxHeartbeats 4000000 in
set_option maxRecDepth 100000 in
theorem c_X4_fail (l : Launch) (D : va_G) (kc : Nat → ClassId) (N : Nat) (a0 a1 : Nat) (start : Int32) (end_ : Int32) (place : Int32) (kind : Int32) (value : Int32) (code : Int32) (loftRead : Int32) (startRead : Int32) (seedRead : Int32) (x1 : Int32) (r_ : Int32) (code' : Int32) (hf : f_X4_fail N x1 = some (r_, code')) : MZ l yX4_fail wsX4_fail ({ frames := 0, cells := 0, slots := 0, locals := 0 }) D kc [.ref a0, .int x1] (w_X4_fail kc a0 a1 start end_ place kind value code loftRead startRead seedRead) (w_X4_fail kc a0 a1 start end_ place kind value code' loftRead startRead seedRead) r_ := by
  refine gM_Z (cc := cX4_fail) (maxL := 2) (by decide) rfl (Nat.le_of_ble_eq_true rfl) ?_
  intro p e s m below meth c A ls Q hx hb hml hown hts hN hK hP hD hA hl kR
  have hS : va_S A s.heap s.heap [] := va_S.rf
  have hl : lv_has ls 2 [(0, .ref a0), (1, .int x1)] := hl
  have in_X4 : ∀ w ∈ u_ws RX4 TX4 10, w ∈ wsX4_fail := by decide +kernel
  have lk_33 := hts (.fieldLink RX4 33 "BalloonMail$Reader" "code" "I") (by decide +kernel)
  unfold f_X4_fail at hf
  refine lv_aload_n hx hb dX4_fail_0 rfl (lv_at hl 0 rfl) ?_
  refine lv_iload_n hx hb dX4_fail_1 rfl (lv_at hl 1 rfl) ?_
  refine va_put (D := D) (ci := 4) (v := .int x1) (ty := .int) (C := RX4) (T := TX4) (N := 10) hx hb hts in_X4 tyX4 tyX4_ok nmX4 hown hK hP hD hS 0 rfl rfl 6 (by decide) lk_33 (fun _ h9 => h9) rfl (by decide +kernel) rfl rfl (Nat.le_of_ble_eq_true rfl) dX4_fail_2 (fun H locs hP hD hS => ?_)
  have hP : va_P D vwCl (w_X4_fail kc a0 a1 start end_ place kind value x1 loftRead startRead seedRead) H := hP
  have hD : va_D A (w_X4_fail kc a0 a1 start end_ place kind value x1 loftRead startRead seedRead) := hD
  refine lv_iconst (v := 0) hx hb dX4_fail_5 (by decide) ?_
  cases hf
  exact kR _ _ _ _ (Or.inl rfl) hP hD hS dX4_fail_6
abbrev w_X4_passRun (kc : Nat → ClassId) (a0 a1 : Nat) (start : Int32) (end_ : Int32) (place : Int32) (kind : Int32) (value : Int32) (code : Int32) (loftRead : Int32) (startRead : Int32) (seedRead : Int32) (text : Nat → Int32) : va_W := [(a0, .inr (4, [.int start, .ref a1, .int end_, .int place, .int kind, .int value, .int code, .int loftRead, .int startRead, .int seedRead])), (a1, .inl (kc 0, 900, .inl text))]
set_option maxHeartbeats 4000000 in
set_option maxRecDepth 100000 in
theorem c_X4_passRun (l : Launch) (D : va_G) (kc : Nat → ClassId) (N : Nat) (a0 a1 : Nat) (start : Int32) (end_ : Int32) (place : Int32) (kind : Int32) (value : Int32) (code : Int32) (loftRead : Int32) (startRead : Int32) (seedRead : Int32) (text : Nat → Int32) (x1 : Int32) (x2 : Int32) (place' : Int32) (hf : f_X4_passRun N end_ place text x1 x2 = some place') : MV l yX4_passRun wsX4_passRun ({ frames := 0, cells := 0, slots := 0, locals := 0 }) D kc [.ref a0, .int x1, .int x2] (w_X4_passRun kc a0 a1 start end_ place kind value code loftRead startRead seedRead text) (w_X4_passRun kc a0 a1 start end_ place' kind value code loftRead startRead seedRead text) := by
  refine gM_V (cc := cX4_passRun) (maxL := 3) (by decide) rfl (Nat.le_of_ble_eq_true rfl) ?_
  intro p e s m below meth c A ls Q hx hb hml hown hts hN hK hP hD hA hl kR
  have hS : va_S A s.heap s.heap [] := va_S.rf
  have hl : lv_has ls 3 [(0, .ref a0), (1, .int x1), (2, .int x2)] := hl
  have in_X4 : ∀ w ∈ u_ws RX4 TX4 10, w ∈ wsX4_passRun := by decide +kernel
  have lk_30 := hts (.fieldLink RX4 30 "BalloonMail$Reader" "place" "I") (by decide +kernel)
  have lk_26 := hts (.fieldLink RX4 26 "BalloonMail$Reader" "end" "I") (by decide +kernel)
  have lk_9 := hts (.fieldLink RX4 9 "BalloonMail$Reader" "text" "[B") (by decide +kernel)
  unfold f_X4_passRun at hf
  have L0 : ∀ (n : Nat) (place_0 : Int32) (place_0o : Int32), f_X4_passRun_0 N end_ text x1 x2 n place_0 = some place_0o → (∀ (H : Heap) (locs : List Loc) (ls : Array Slot), va_P D vwCl (w_X4_passRun kc a0 a1 start end_ place_0o kind value code loftRead startRead seedRead text) H → va_D A (w_X4_passRun kc a0 a1 start end_ place_0o kind value code loftRead startRead seedRead text) → va_S A s.heap H locs → lv_has ls 3 [(0, .ref a0), (1, .int x1), (2, .int x2)] → W p l e ({ frames := 0, cells := 0, slots := 0, locals := 0 }) s m (([.ref a0, .int x1, .int x2] : List Value).toArray) below meth c H locs 0 0 Q (F0 m 50 ls [])) → ∀ (H : Heap) (locs : List Loc) (ls : Array Slot), va_P D vwCl (w_X4_passRun kc a0 a1 start end_ place_0 kind value code loftRead startRead seedRead text) H → va_D A (w_X4_passRun kc a0 a1 start end_ place_0 kind value code loftRead startRead seedRead text) → va_S A s.heap H locs → lv_has ls 3 [(0, .ref a0), (1, .int x1), (2, .int x2)] → W p l e ({ frames := 0, cells := 0, slots := 0, locals := 0 }) s m (([.ref a0, .int x1, .int x2] : List Value).toArray) below meth c H locs 0 0 Q (F0 m 0 ls []) := by
    intro n
    induction n with
    | zero => intro _ _ hf; rw [f_X4_passRun_0.eq_1] at hf; cases hf
    | succ n ih =>
      intro place_0 place_0o hf hk H locs ls hP hD hS hl
      rw [f_X4_passRun_0.eq_2] at hf
      refine lv_aload_n hx hb dX4_passRun_0 rfl (lv_at hl 0 rfl) ?_
      refine va_get (D := D) (ci := 4) (v := .int place_0) (C := RX4) (T := TX4) (N := 10) hx hb hts in_X4 hown hK hP 0 rfl rfl 3 (by decide) lk_30 (fun _ h9 => h9) rfl dX4_passRun_1 ?_
      refine lv_aload_n hx hb dX4_passRun_4 rfl (lv_at hl 0 rfl) ?_
      refine va_get (D := D) (ci := 4) (v := .int end_) (C := RX4) (T := TX4) (N := 10) hx hb hts in_X4 hown hK hP 0 rfl rfl 2 (by decide) lk_26 (fun _ h9 => h9) rfl dX4_passRun_5 ?_
      refine lv_icmp_ge (tgt := 50) hx hb dX4_passRun_8 (by decide) (fun hc => ?_) (fun hc => ?_)
      · have hf := o_t hc hf
        cases hf
        exact hk _ _ _ hP hD hS (lv_sub hl [0, 1, 2] rfl)
      · have hf := o_f hc hf
        refine lv_aload_n hx hb dX4_passRun_11 rfl (lv_at hl 0 rfl) ?_
        refine va_get (D := D) (ci := 4) (v := .ref a1) (C := RX4) (T := TX4) (N := 10) hx hb hts in_X4 hown hK hP 0 rfl rfl 1 (by decide) lk_9 (fun _ h9 => h9) rfl dX4_passRun_12 ?_
        refine lv_aload_n hx hb dX4_passRun_15 rfl (lv_at hl 0 rfl) ?_
        refine va_get (D := D) (ci := 4) (v := .int place_0) (C := RX4) (T := TX4) (N := 10) hx hb hts in_X4 hown hK hP 0 rfl rfl 3 (by decide) lk_30 (fun _ h9 => h9) rfl dX4_passRun_16 ?_
        obtain ⟨hi, hf⟩ := gIx_some hf
        refine va_bald hx hb hK hP 1 0 rfl rfl hi dX4_passRun_19 ?_
        refine lv_iload_n hx hb dX4_passRun_20 rfl (lv_at hl 1 rfl) ?_
        refine lv_icmp_lt (tgt := 50) hx hb dX4_passRun_21 (by decide) (fun hc => ?_) (fun hc => ?_)
        · have hf := o_t hc hf
          cases hf
          exact hk _ _ _ hP hD hS (lv_sub hl [0, 1, 2] rfl)
        · have hf := o_f hc hf
          refine lv_aload_n hx hb dX4_passRun_24 rfl (lv_at hl 0 rfl) ?_
          refine va_get (D := D) (ci := 4) (v := .ref a1) (C := RX4) (T := TX4) (N := 10) hx hb hts in_X4 hown hK hP 0 rfl rfl 1 (by decide) lk_9 (fun _ h9 => h9) rfl dX4_passRun_25 ?_
          refine lv_aload_n hx hb dX4_passRun_28 rfl (lv_at hl 0 rfl) ?_
          refine va_get (D := D) (ci := 4) (v := .int place_0) (C := RX4) (T := TX4) (N := 10) hx hb hts in_X4 hown hK hP 0 rfl rfl 3 (by decide) lk_30 (fun _ h9 => h9) rfl dX4_passRun_29 ?_
          obtain ⟨hi, hf⟩ := gIx_some hf
          refine va_bald hx hb hK hP 1 0 rfl rfl hi dX4_passRun_32 ?_
          refine lv_iload_n hx hb dX4_passRun_33 rfl (lv_at hl 2 rfl) ?_
          refine lv_icmp_gt (tgt := 50) hx hb dX4_passRun_34 (by decide) (fun hc => ?_) (fun hc => ?_)
          · have hf := o_t hc hf
            cases hf
            exact hk _ _ _ hP hD hS (lv_sub hl [0, 1, 2] rfl)
          · have hf := o_f hc hf
            refine lv_aload_n hx hb dX4_passRun_37 rfl (lv_at hl 0 rfl) ?_
            refine lv_dup hx hb dX4_passRun_38 rfl ?_
            refine va_get (D := D) (ci := 4) (v := .int place_0) (C := RX4) (T := TX4) (N := 10) hx hb hts in_X4 hown hK hP 0 rfl rfl 3 (by decide) lk_30 (fun _ h9 => h9) rfl dX4_passRun_39 ?_
            refine lv_iconst (v := 1) hx hb dX4_passRun_42 (by decide) ?_
            refine lv_iadd hx hb dX4_passRun_43 ?_
            refine va_put (D := D) (ci := 4) (v := .int (place_0 + 1)) (ty := .int) (C := RX4) (T := TX4) (N := 10) hx hb hts in_X4 tyX4 tyX4_ok nmX4 hown hK hP hD hS 0 rfl rfl 3 (by decide) lk_30 (fun _ h9 => h9) rfl (by decide +kernel) rfl rfl (Nat.le_of_ble_eq_true rfl) dX4_passRun_44 (fun H locs hP hD hS => ?_)
            have hP : va_P D vwCl (w_X4_passRun kc a0 a1 start end_ (place_0 + 1) kind value code loftRead startRead seedRead text) H := hP
            have hD : va_D A (w_X4_passRun kc a0 a1 start end_ (place_0 + 1) kind value code loftRead startRead seedRead text) := hD
            refine lv_goto (tgt := 0) hx hb dX4_passRun_47 (by decide) ?_
            exact ih _ _ hf hk _ _ _ hP hD hS (lv_sub hl [0, 1, 2] rfl)
  obtain ⟨place_0o, hc, hf⟩ := ob1_some hf
  refine L0 N _ _ hc (fun H locs ls hP hD hS hl => ?_) _ _ _ hP hD hS (lv_sub hl [0, 1, 2] rfl)
  cases hf
  exact kR _ _ _ _ hP hD hS dX4_passRun_50
abbrev w_X4_numberRead (kc : Nat → ClassId) (a0 a1 : Nat) (start : Int32) (end_ : Int32) (place : Int32) (kind : Int32) (value : Int32) (code : Int32) (loftRead : Int32) (startRead : Int32) (seedRead : Int32) (text : Nat → Int32) : va_W := [(a0, .inr (4, [.int start, .ref a1, .int end_, .int place, .int kind, .int value, .int code, .int loftRead, .int startRead, .int seedRead])), (a1, .inl (kc 0, 900, .inl text))]
set_option maxHeartbeats 4000000 in
set_option maxRecDepth 100000 in
theorem c_X4_numberRead (l : Launch) (D : va_G) (kc : Nat → ClassId) (N : Nat) (a0 a1 : Nat) (start : Int32) (end_ : Int32) (place : Int32) (kind : Int32) (value : Int32) (code : Int32) (loftRead : Int32) (startRead : Int32) (seedRead : Int32) (text : Nat → Int32) (r_ : Int32) (hf : f_X4_numberRead N start place text = some r_) : MI l yX4_numberRead wsX4_numberRead ({ frames := 0, cells := 0, slots := 0, locals := 0 }) D kc [.ref a0] (w_X4_numberRead kc a0 a1 start end_ place kind value code loftRead startRead seedRead text) (w_X4_numberRead kc a0 a1 start end_ place kind value code loftRead startRead seedRead text) r_ := by
  refine gM_I (cc := cX4_numberRead) (maxL := 3) (by decide) rfl (Nat.le_of_ble_eq_true rfl) ?_
  intro p e s m below meth c A ls Q hx hb hml hown hts hN hK hP hD hA hl kR
  have hS : va_S A s.heap s.heap [] := va_S.rf
  have hl : lv_has ls 3 [(0, .ref a0)] := hl
  have in_X4 : ∀ w ∈ u_ws RX4 TX4 10, w ∈ wsX4_numberRead := by decide +kernel
  have lk_176 := hts (.fieldLink RX4 176 "BalloonMail$Reader" "start" "I") (by decide +kernel)
  have lk_30 := hts (.fieldLink RX4 30 "BalloonMail$Reader" "place" "I") (by decide +kernel)
  have lk_9 := hts (.fieldLink RX4 9 "BalloonMail$Reader" "text" "[B") (by decide +kernel)
  unfold f_X4_numberRead at hf
  refine lv_iconst (v := 0) hx hb dX4_numberRead_0 (by decide) ?_
  refine lv_istore_n (lv' := [(1, .int 0), (0, .ref a0)]) hx hb dX4_numberRead_1 rfl hl (by decide) rfl (fun ls hl => ?_)
  refine lv_aload_n hx hb dX4_numberRead_2 rfl (lv_at hl 1 rfl) ?_
  refine va_get (D := D) (ci := 4) (v := .int start) (C := RX4) (T := TX4) (N := 10) hx hb hts in_X4 hown hK hP 0 rfl rfl 0 (by decide) lk_176 (fun _ h9 => h9) rfl dX4_numberRead_3 ?_
  refine lv_istore_n (lv' := [(2, .int start), (1, .int 0), (0, .ref a0)]) hx hb dX4_numberRead_6 rfl hl (by decide) rfl (fun ls hl => ?_)
  have L7 : ∀ (n : Nat) (y2_7 : Int32) (y1_7 : Int32) (y2_7o : Int32) (y1_7o : Int32), f_X4_numberRead_7 N place text n y2_7 y1_7 = some (y2_7o, y1_7o) → (∀ (H : Heap) (locs : List Loc) (ls : Array Slot), va_P D vwCl (w_X4_numberRead kc a0 a1 start end_ place kind value code loftRead startRead seedRead text) H → va_D A (w_X4_numberRead kc a0 a1 start end_ place kind value code loftRead startRead seedRead text) → va_S A s.heap H locs → lv_has ls 3 [(0, .ref a0), (1, .int y1_7o), (2, .int y2_7o)] → W p l e ({ frames := 0, cells := 0, slots := 0, locals := 0 }) s m (([.ref a0] : List Value).toArray) below meth c H locs 0 0 Q (F0 m 36 ls [])) → ∀ (H : Heap) (locs : List Loc) (ls : Array Slot), va_P D vwCl (w_X4_numberRead kc a0 a1 start end_ place kind value code loftRead startRead seedRead text) H → va_D A (w_X4_numberRead kc a0 a1 start end_ place kind value code loftRead startRead seedRead text) → va_S A s.heap H locs → lv_has ls 3 [(0, .ref a0), (1, .int y1_7), (2, .int y2_7)] → W p l e ({ frames := 0, cells := 0, slots := 0, locals := 0 }) s m (([.ref a0] : List Value).toArray) below meth c H locs 0 0 Q (F0 m 7 ls []) := by
    intro n
    induction n with
    | zero => intro _ _ _ _ hf; rw [f_X4_numberRead_7.eq_1] at hf; cases hf
    | succ n ih =>
      intro y2_7 y1_7 y2_7o y1_7o hf hk H locs ls hP hD hS hl
      rw [f_X4_numberRead_7.eq_2] at hf
      refine lv_iload_n hx hb dX4_numberRead_7 rfl (lv_at hl 2 rfl) ?_
      refine lv_aload_n hx hb dX4_numberRead_8 rfl (lv_at hl 0 rfl) ?_
      refine va_get (D := D) (ci := 4) (v := .int place) (C := RX4) (T := TX4) (N := 10) hx hb hts in_X4 hown hK hP 0 rfl rfl 3 (by decide) lk_30 (fun _ h9 => h9) rfl dX4_numberRead_9 ?_
      refine lv_icmp_ge (tgt := 36) hx hb dX4_numberRead_12 (by decide) (fun hc => ?_) (fun hc => ?_)
      · have hf := o_t hc hf
        cases hf
        exact hk _ _ _ hP hD hS (lv_sub hl [0, 1, 2] rfl)
      · have hf := o_f hc hf
        refine lv_iload_n hx hb dX4_numberRead_15 rfl (lv_at hl 1 rfl) ?_
        refine lv_bipush (v := 10) hx hb dX4_numberRead_16 (by decide) ?_
        refine lv_imul hx hb dX4_numberRead_18 ?_
        refine lv_aload_n hx hb dX4_numberRead_19 rfl (lv_at hl 0 rfl) ?_
        refine va_get (D := D) (ci := 4) (v := .ref a1) (C := RX4) (T := TX4) (N := 10) hx hb hts in_X4 hown hK hP 0 rfl rfl 1 (by decide) lk_9 (fun _ h9 => h9) rfl dX4_numberRead_20 ?_
        refine lv_iload_n hx hb dX4_numberRead_23 rfl (lv_at hl 2 rfl) ?_
        obtain ⟨hi, hf⟩ := gIx_some hf
        refine va_bald hx hb hK hP 1 0 rfl rfl hi dX4_numberRead_24 ?_
        refine lv_bipush (v := 48) hx hb dX4_numberRead_25 (by decide) ?_
        refine lv_isub hx hb dX4_numberRead_27 ?_
        refine lv_iadd hx hb dX4_numberRead_28 ?_
        refine lv_istore_n (lv' := [(1, .int ((y1_7 * 10) + ((text (y2_7 : Int32).toNatClampNeg) - 48))), (0, .ref a0), (2, .int y2_7)]) hx hb dX4_numberRead_29 rfl hl (by decide) rfl (fun ls hl => ?_)
        refine lv_iinc (v := (y2_7 + 1)) (lv' := [(2, .int (y2_7 + 1)), (1, .int ((y1_7 * 10) + ((text (y2_7 : Int32).toNatClampNeg) - 48))), (0, .ref a0)]) hx hb dX4_numberRead_30 hl (k := 2) rfl (by rfl) (by decide) rfl (fun ls hl => ?_)
        refine lv_goto (tgt := 7) hx hb dX4_numberRead_33 (by decide) ?_
        exact ih _ _ _ _ hf hk _ _ _ hP hD hS (lv_sub hl [2, 1, 0] rfl)
  obtain ⟨y2_7o, y1_7o, hc, hf⟩ := ob2_some hf
  refine L7 N _ _ _ _ hc (fun H locs ls hP hD hS hl => ?_) _ _ _ hP hD hS (lv_sub hl [2, 1, 0] rfl)
  refine lv_iload_n hx hb dX4_numberRead_36 rfl (lv_at hl 1 rfl) ?_
  cases hf
  exact kR _ _ _ _ hP hD hS dX4_numberRead_37
abbrev w_X4_nextToken (kc : Nat → ClassId) (a0 a1 : Nat) (start : Int32) (end_ : Int32) (place : Int32) (kind : Int32) (value : Int32) (code : Int32) (loftRead : Int32) (startRead : Int32) (seedRead : Int32) (text : Nat → Int32) : va_W := [(a0, .inr (4, [.int start, .ref a1, .int end_, .int place, .int kind, .int value, .int code, .int loftRead, .int startRead, .int seedRead])), (a1, .inl (kc 0, 900, .inl text))]
set_option maxHeartbeats 4000000 in
set_option maxRecDepth 100000 in
theorem c_X4_nextToken (l : Launch) (D : va_G) (kc : Nat → ClassId) (N : Nat) (a0 a1 : Nat) (start : Int32) (end_ : Int32) (place : Int32) (kind : Int32) (value : Int32) (code : Int32) (loftRead : Int32) (startRead : Int32) (seedRead : Int32) (text : Nat → Int32) (start' : Int32) (place' : Int32) (kind' : Int32) (value' : Int32) (hf : f_X4_nextToken N end_ place kind value text = some (start', place', kind', value')) : MV l yX4_nextToken wsX4_nextToken ({ frames := 1, cells := 0, slots := 0, locals := 22 }) D kc [.ref a0] (w_X4_nextToken kc a0 a1 start end_ place kind value code loftRead startRead seedRead text) (w_X4_nextToken kc a0 a1 start' end_ place' kind' value' code loftRead startRead seedRead text) := by
  refine gM_V (cc := cX4_nextToken) (maxL := 2) (by decide) rfl (Nat.le_of_ble_eq_true rfl) ?_
  intro p e s m below meth c A ls Q hx hb hml hown hts hN hK hP hD hA hl kR
  have hS : va_S A s.heap s.heap [] := va_S.rf
  have hl : lv_has ls 2 [(0, .ref a0)] := hl
  have in_X4 : ∀ w ∈ u_ws RX4 TX4 10, w ∈ wsX4_nextToken := by decide +kernel
  have lk_30 := hts (.fieldLink RX4 30 "BalloonMail$Reader" "place" "I") (by decide +kernel)
  have lk_26 := hts (.fieldLink RX4 26 "BalloonMail$Reader" "end" "I") (by decide +kernel)
  have lk_9 := hts (.fieldLink RX4 9 "BalloonMail$Reader" "text" "[B") (by decide +kernel)
  have lk_176 := hts (.fieldLink RX4 176 "BalloonMail$Reader" "start" "I") (by decide +kernel)
  have lk_49 := hts (.fieldLink RX4 49 "BalloonMail$Reader" "kind" "I") (by decide +kernel)
  have lk_120 := hts (.fieldLink RX4 120 "BalloonMail$Reader" "value" "I") (by decide +kernel)
  have J198 : ∀ (y1_198 : Int32) (start_198 : Int32) (place_198 : Int32) (kind_198 : Int32) (value_198 : Int32), f_X4_nextToken_j198 N y1_198 start_198 place_198 kind_198 value_198 = some (start', place', kind', value') → ∀ (H : Heap) (locs : List Loc) (ls : Array Slot), va_P D vwCl (w_X4_nextToken kc a0 a1 start_198 end_ place_198 kind_198 value_198 code loftRead startRead seedRead text) H → va_D A (w_X4_nextToken kc a0 a1 start_198 end_ place_198 kind_198 value_198 code loftRead startRead seedRead text) → va_S A s.heap H locs → lv_has ls 2 [(0, .ref a0), (1, .int y1_198)] → W p l e ({ frames := 1, cells := 0, slots := 0, locals := 22 }) s m (([.ref a0] : List Value).toArray) below meth c H locs 0 0 Q (F0 m 198 ls []) := by
    clear hf
    intro y1_198 start_198 place_198 kind_198 value_198 hf H locs ls hP hD hS hl
    unfold f_X4_nextToken_j198 at hf
    refine lv_aload_n hx hb dX4_nextToken_198 rfl (lv_at hl 0 rfl) ?_
    refine lv_dup hx hb dX4_nextToken_199 rfl ?_
    refine va_get (D := D) (ci := 4) (v := .int place_198) (C := RX4) (T := TX4) (N := 10) hx hb hts in_X4 hown hK hP 0 rfl rfl 3 (by decide) lk_30 (fun _ h9 => h9) rfl dX4_nextToken_200 ?_
    refine lv_iconst (v := 1) hx hb dX4_nextToken_203 (by decide) ?_
    refine lv_iadd hx hb dX4_nextToken_204 ?_
    refine va_put (D := D) (ci := 4) (v := .int (place_198 + 1)) (ty := .int) (C := RX4) (T := TX4) (N := 10) hx hb hts in_X4 tyX4 tyX4_ok nmX4 hown hK hP hD hS 0 rfl rfl 3 (by decide) lk_30 (fun _ h9 => h9) rfl (by decide +kernel) rfl rfl (Nat.le_of_ble_eq_true rfl) dX4_nextToken_205 (fun H locs hP hD hS => ?_)
    have hP : va_P D vwCl (w_X4_nextToken kc a0 a1 start_198 end_ (place_198 + 1) kind_198 value_198 code loftRead startRead seedRead text) H := hP
    have hD : va_D A (w_X4_nextToken kc a0 a1 start_198 end_ (place_198 + 1) kind_198 value_198 code loftRead startRead seedRead text) := hD
    refine lv_aload_n hx hb dX4_nextToken_208 rfl (lv_at hl 0 rfl) ?_
    refine lv_iload_n hx hb dX4_nextToken_209 rfl (lv_at hl 1 rfl) ?_
    refine lv_bipush (v := 59) hx hb dX4_nextToken_210 (by decide) ?_
    refine lv_icmp_ne (tgt := 219) hx hb dX4_nextToken_212 (by decide) (fun hc => ?_) (fun hc => ?_)
    · have hf := o_f hc hf
      refine lv_iconst (v := 4) hx hb dX4_nextToken_219 (by decide) ?_
      refine va_put (D := D) (ci := 4) (v := .int 4) (ty := .int) (C := RX4) (T := TX4) (N := 10) hx hb hts in_X4 tyX4 tyX4_ok nmX4 hown hK hP hD hS 0 rfl rfl 4 (by decide) lk_49 (fun _ h9 => h9) rfl (by decide +kernel) rfl rfl (Nat.le_of_ble_eq_true rfl) dX4_nextToken_220 (fun H locs hP hD hS => ?_)
      have hP : va_P D vwCl (w_X4_nextToken kc a0 a1 start_198 end_ (place_198 + 1) 4 value_198 code loftRead startRead seedRead text) H := hP
      have hD : va_D A (w_X4_nextToken kc a0 a1 start_198 end_ (place_198 + 1) 4 value_198 code loftRead startRead seedRead text) := hD
      cases hf
      exact kR _ _ _ _ hP hD hS dX4_nextToken_223
    · have hf := o_t hc hf
      refine lv_iconst (v := 3) hx hb dX4_nextToken_215 (by decide) ?_
      refine lv_goto (tgt := 220) hx hb dX4_nextToken_216 (by decide) ?_
      refine va_put (D := D) (ci := 4) (v := .int 3) (ty := .int) (C := RX4) (T := TX4) (N := 10) hx hb hts in_X4 tyX4 tyX4_ok nmX4 hown hK hP hD hS 0 rfl rfl 4 (by decide) lk_49 (fun _ h9 => h9) rfl (by decide +kernel) rfl rfl (Nat.le_of_ble_eq_true rfl) dX4_nextToken_220 (fun H locs hP hD hS => ?_)
      have hP : va_P D vwCl (w_X4_nextToken kc a0 a1 start_198 end_ (place_198 + 1) 3 value_198 code loftRead startRead seedRead text) H := hP
      have hD : va_D A (w_X4_nextToken kc a0 a1 start_198 end_ (place_198 + 1) 3 value_198 code loftRead startRead seedRead text) := hD
      cases hf
      exact kR _ _ _ _ hP hD hS dX4_nextToken_223
  have J172 : ∀ (start_172 : Int32) (place_172 : Int32) (kind_172 : Int32) (k1_172 : Int32), f_X4_nextToken_j172 N text start_172 place_172 kind_172 k1_172 = some (start', place', kind', value') → ∀ (H : Heap) (locs : List Loc) (ls : Array Slot), va_P D vwCl (w_X4_nextToken kc a0 a1 start_172 end_ place_172 kind_172 value code loftRead startRead seedRead text) H → va_D A (w_X4_nextToken kc a0 a1 start_172 end_ place_172 kind_172 value code loftRead startRead seedRead text) → va_S A s.heap H locs → lv_has ls 2 [(0, .ref a0)] → W p l e ({ frames := 1, cells := 0, slots := 0, locals := 22 }) s m (([.ref a0] : List Value).toArray) below meth c H locs 0 0 Q (F0 m 172 ls [.int k1_172, .ref a0]) := by
    clear hf
    intro start_172 place_172 kind_172 k1_172 hf H locs ls hP hD hS hl
    unfold f_X4_nextToken_j172 at hf
    refine va_put (D := D) (ci := 4) (v := .int k1_172) (ty := .int) (C := RX4) (T := TX4) (N := 10) hx hb hts in_X4 tyX4 tyX4_ok nmX4 hown hK hP hD hS 0 rfl rfl 4 (by decide) lk_49 (fun _ h9 => h9) rfl (by decide +kernel) rfl rfl (Nat.le_of_ble_eq_true rfl) dX4_nextToken_172 (fun H locs hP hD hS => ?_)
    have hP : va_P D vwCl (w_X4_nextToken kc a0 a1 start_172 end_ place_172 k1_172 value code loftRead startRead seedRead text) H := hP
    have hD : va_D A (w_X4_nextToken kc a0 a1 start_172 end_ place_172 k1_172 value code loftRead startRead seedRead text) := hD
    refine lv_aload_n hx hb dX4_nextToken_175 rfl (lv_at hl 0 rfl) ?_
    refine lv_aload_n hx hb dX4_nextToken_176 rfl (lv_at hl 0 rfl) ?_
    refine va_get (D := D) (ci := 4) (v := .int k1_172) (C := RX4) (T := TX4) (N := 10) hx hb hts in_X4 hown hK hP 0 rfl rfl 4 (by decide) lk_49 (fun _ h9 => h9) rfl dX4_nextToken_177 ?_
    refine lv_iconst (v := 2) hx hb dX4_nextToken_180 (by decide) ?_
    refine lv_icmp_ne (tgt := 191) hx hb dX4_nextToken_181 (by decide) (fun hc => ?_) (fun hc => ?_)
    · have hf := o_f hc hf
      refine lv_iconst (v := 0) hx hb dX4_nextToken_191 (by decide) ?_
      refine va_put (D := D) (ci := 4) (v := .int 0) (ty := .int) (C := RX4) (T := TX4) (N := 10) hx hb hts in_X4 tyX4 tyX4_ok nmX4 hown hK hP hD hS 0 rfl rfl 5 (by decide) lk_120 (fun _ h9 => h9) rfl (by decide +kernel) rfl rfl (Nat.le_of_ble_eq_true rfl) dX4_nextToken_192 (fun H locs hP hD hS => ?_)
      have hP : va_P D vwCl (w_X4_nextToken kc a0 a1 start_172 end_ place_172 k1_172 0 code loftRead startRead seedRead text) H := hP
      have hD : va_D A (w_X4_nextToken kc a0 a1 start_172 end_ place_172 k1_172 0 code loftRead startRead seedRead text) := hD
      refine lv_goto (tgt := 223) hx hb dX4_nextToken_195 (by decide) ?_
      cases hf
      exact kR _ _ _ _ hP hD hS dX4_nextToken_223
    · have hf := o_t hc hf
      refine lv_aload_n hx hb dX4_nextToken_184 rfl (lv_at hl 0 rfl) ?_
      obtain ⟨r_2, hc, hf⟩ := ob1_some hf
      refine g_VI (As := []) (rest := [.ref a0]) (ws' := (w_X4_nextToken kc a0 a1 start_172 end_ place_172 k1_172 value code loftRead startRead seedRead text)) ⟨hx, hb, hml, hown, hts⟩ hN hK hP hD hS hA (c_X4_numberRead l D kc N a0 a1 start_172 end_ place_172 k1_172 value code loftRead startRead seedRead text r_2 hc) (cwV 0 hts gX4_nextToken_X4_numberRead rfl rfl rfl (by decide +kernel) ⟨Nat.le_of_ble_eq_true rfl, Nat.le_of_ble_eq_true rfl⟩) [0, 1] [] [0, 1] (by exact ⟨rfl, rfl, by decide, rfl⟩) 0 4 rfl rfl rfl rfl hl.1 rfl (Nat.le_of_ble_eq_true rfl) dX4_nextToken_185 ⟨Nat.le_refl _, Nat.le_refl _⟩ (fun H locs hP hD hS => ?_)
      refine lv_goto (tgt := 192) hx hb dX4_nextToken_188 (by decide) ?_
      refine va_put (D := D) (ci := 4) (v := .int r_2) (ty := .int) (C := RX4) (T := TX4) (N := 10) hx hb hts in_X4 tyX4 tyX4_ok nmX4 hown hK hP hD hS 0 rfl rfl 5 (by decide) lk_120 (fun _ h9 => h9) rfl (by decide +kernel) rfl rfl (Nat.le_of_ble_eq_true rfl) dX4_nextToken_192 (fun H locs hP hD hS => ?_)
      have hP : va_P D vwCl (w_X4_nextToken kc a0 a1 start_172 end_ place_172 k1_172 r_2 code loftRead startRead seedRead text) H := hP
      have hD : va_D A (w_X4_nextToken kc a0 a1 start_172 end_ place_172 k1_172 r_2 code loftRead startRead seedRead text) := hD
      refine lv_goto (tgt := 223) hx hb dX4_nextToken_195 (by decide) ?_
      cases hf
      exact kR _ _ _ _ hP hD hS dX4_nextToken_223
  have J133 : ∀ (y1_133 : Int32) (start_133 : Int32) (place_133 : Int32) (kind_133 : Int32), f_X4_nextToken_j133 N end_ value text y1_133 start_133 place_133 kind_133 = some (start', place', kind', value') → ∀ (H : Heap) (locs : List Loc) (ls : Array Slot), va_P D vwCl (w_X4_nextToken kc a0 a1 start_133 end_ place_133 kind_133 value code loftRead startRead seedRead text) H → va_D A (w_X4_nextToken kc a0 a1 start_133 end_ place_133 kind_133 value code loftRead startRead seedRead text) → va_S A s.heap H locs → lv_has ls 2 [(0, .ref a0), (1, .int y1_133)] → W p l e ({ frames := 1, cells := 0, slots := 0, locals := 22 }) s m (([.ref a0] : List Value).toArray) below meth c H locs 0 0 Q (F0 m 133 ls []) := by
    clear hf
    intro y1_133 start_133 place_133 kind_133 hf H locs ls hP hD hS hl
    unfold f_X4_nextToken_j133 at hf
    refine lv_iload_n hx hb dX4_nextToken_133 rfl (lv_at hl 1 rfl) ?_
    refine lv_bipush (v := 48) hx hb dX4_nextToken_134 (by decide) ?_
    refine lv_icmp_lt (tgt := 198) hx hb dX4_nextToken_136 (by decide) (fun hc => ?_) (fun hc => ?_)
    · have hf := o_t hc hf
      exact J198 _ _ _ _ _ hf _ _ _ hP hD hS (lv_sub hl [0, 1] rfl)
    · have hf := o_f hc hf
      refine lv_iload_n hx hb dX4_nextToken_139 rfl (lv_at hl 1 rfl) ?_
      refine lv_bipush (v := 57) hx hb dX4_nextToken_140 (by decide) ?_
      refine lv_icmp_gt (tgt := 198) hx hb dX4_nextToken_142 (by decide) (fun hc => ?_) (fun hc => ?_)
      · have hf := o_t hc hf
        exact J198 _ _ _ _ _ hf _ _ _ hP hD hS (lv_sub hl [0, 1] rfl)
      · have hf := o_f hc hf
        refine lv_aload_n hx hb dX4_nextToken_145 rfl (lv_at hl 0 rfl) ?_
        refine lv_bipush (v := 48) hx hb dX4_nextToken_146 (by decide) ?_
        refine lv_bipush (v := 57) hx hb dX4_nextToken_148 (by decide) ?_
        obtain ⟨place_1, hc, hf⟩ := ob1_some hf
        refine g_VV (As := [.int 48, .int 57]) (rest := []) (ws' := (w_X4_nextToken kc a0 a1 start_133 end_ place_1 kind_133 value code loftRead startRead seedRead text)) ⟨hx, hb, hml, hown, hts⟩ hN hK hP hD hS hA (c_X4_passRun l D kc N a0 a1 start_133 end_ place_133 kind_133 value code loftRead startRead seedRead text 48 57 place_1 hc) (cwV 2 hts gX4_nextToken_X4_passRun rfl rfl rfl (by decide +kernel) ⟨Nat.le_of_ble_eq_true rfl, Nat.le_of_ble_eq_true rfl⟩) [0, 1] [] [0, 1] (by exact ⟨rfl, rfl, by decide, rfl⟩) 0 4 rfl rfl rfl rfl hl.1 rfl (Nat.le_of_ble_eq_true rfl) dX4_nextToken_150 ⟨Nat.le_refl _, Nat.le_refl _⟩ (fun H locs hP hD hS => ?_)
        refine lv_aload_n hx hb dX4_nextToken_153 rfl (lv_at hl 0 rfl) ?_
        refine lv_aload_n hx hb dX4_nextToken_154 rfl (lv_at hl 0 rfl) ?_
        refine va_get (D := D) (ci := 4) (v := .int place_1) (C := RX4) (T := TX4) (N := 10) hx hb hts in_X4 hown hK hP 0 rfl rfl 3 (by decide) lk_30 (fun _ h9 => h9) rfl dX4_nextToken_155 ?_
        refine lv_aload_n hx hb dX4_nextToken_158 rfl (lv_at hl 0 rfl) ?_
        refine va_get (D := D) (ci := 4) (v := .int start_133) (C := RX4) (T := TX4) (N := 10) hx hb hts in_X4 hown hK hP 0 rfl rfl 0 (by decide) lk_176 (fun _ h9 => h9) rfl dX4_nextToken_159 ?_
        refine lv_isub hx hb dX4_nextToken_162 ?_
        refine lv_iconst (v := 4) hx hb dX4_nextToken_163 (by decide) ?_
        refine lv_icmp_gt (tgt := 171) hx hb dX4_nextToken_164 (by decide) (fun hc => ?_) (fun hc => ?_)
        · have hf := o_t hc hf
          refine lv_iconst (v := 4) hx hb dX4_nextToken_171 (by decide) ?_
          exact J172 _ _ _ _ hf _ _ _ hP hD hS (lv_sub hl [0] rfl)
        · have hf := o_f hc hf
          refine lv_iconst (v := 2) hx hb dX4_nextToken_167 (by decide) ?_
          refine lv_goto (tgt := 172) hx hb dX4_nextToken_168 (by decide) ?_
          exact J172 _ _ _ _ hf _ _ _ hP hD hS (lv_sub hl [0] rfl)
  have J52 : ∀ (place_52 : Int32), f_X4_nextToken_j52 N end_ kind value text place_52 = some (start', place', kind', value') → ∀ (H : Heap) (locs : List Loc) (ls : Array Slot), va_P D vwCl (w_X4_nextToken kc a0 a1 start end_ place_52 kind value code loftRead startRead seedRead text) H → va_D A (w_X4_nextToken kc a0 a1 start end_ place_52 kind value code loftRead startRead seedRead text) → va_S A s.heap H locs → lv_has ls 2 [(0, .ref a0)] → W p l e ({ frames := 1, cells := 0, slots := 0, locals := 22 }) s m (([.ref a0] : List Value).toArray) below meth c H locs 0 0 Q (F0 m 52 ls []) := by
    clear hf
    intro place_52 hf H locs ls hP hD hS hl
    unfold f_X4_nextToken_j52 at hf
    refine lv_aload_n hx hb dX4_nextToken_52 rfl (lv_at hl 0 rfl) ?_
    refine lv_aload_n hx hb dX4_nextToken_53 rfl (lv_at hl 0 rfl) ?_
    refine va_get (D := D) (ci := 4) (v := .int place_52) (C := RX4) (T := TX4) (N := 10) hx hb hts in_X4 hown hK hP 0 rfl rfl 3 (by decide) lk_30 (fun _ h9 => h9) rfl dX4_nextToken_54 ?_
    refine va_put (D := D) (ci := 4) (v := .int place_52) (ty := .int) (C := RX4) (T := TX4) (N := 10) hx hb hts in_X4 tyX4 tyX4_ok nmX4 hown hK hP hD hS 0 rfl rfl 0 (by decide) lk_176 (fun _ h9 => h9) rfl (by decide +kernel) rfl rfl (Nat.le_of_ble_eq_true rfl) dX4_nextToken_57 (fun H locs hP hD hS => ?_)
    have hP : va_P D vwCl (w_X4_nextToken kc a0 a1 place_52 end_ place_52 kind value code loftRead startRead seedRead text) H := hP
    have hD : va_D A (w_X4_nextToken kc a0 a1 place_52 end_ place_52 kind value code loftRead startRead seedRead text) := hD
    refine lv_aload_n hx hb dX4_nextToken_60 rfl (lv_at hl 0 rfl) ?_
    refine va_get (D := D) (ci := 4) (v := .int place_52) (C := RX4) (T := TX4) (N := 10) hx hb hts in_X4 hown hK hP 0 rfl rfl 3 (by decide) lk_30 (fun _ h9 => h9) rfl dX4_nextToken_61 ?_
    refine lv_aload_n hx hb dX4_nextToken_64 rfl (lv_at hl 0 rfl) ?_
    refine va_get (D := D) (ci := 4) (v := .int end_) (C := RX4) (T := TX4) (N := 10) hx hb hts in_X4 hown hK hP 0 rfl rfl 2 (by decide) lk_26 (fun _ h9 => h9) rfl dX4_nextToken_65 ?_
    refine lv_icmp_lt (tgt := 77) hx hb dX4_nextToken_68 (by decide) (fun hc => ?_) (fun hc => ?_)
    · have hf := o_t hc hf
      refine lv_aload_n hx hb dX4_nextToken_77 rfl (lv_at hl 0 rfl) ?_
      refine va_get (D := D) (ci := 4) (v := .ref a1) (C := RX4) (T := TX4) (N := 10) hx hb hts in_X4 hown hK hP 0 rfl rfl 1 (by decide) lk_9 (fun _ h9 => h9) rfl dX4_nextToken_78 ?_
      refine lv_aload_n hx hb dX4_nextToken_81 rfl (lv_at hl 0 rfl) ?_
      refine va_get (D := D) (ci := 4) (v := .int place_52) (C := RX4) (T := TX4) (N := 10) hx hb hts in_X4 hown hK hP 0 rfl rfl 3 (by decide) lk_30 (fun _ h9 => h9) rfl dX4_nextToken_82 ?_
      obtain ⟨hi, hf⟩ := gIx_some hf
      refine va_bald hx hb hK hP 1 0 rfl rfl hi dX4_nextToken_85 ?_
      refine lv_istore_n (lv' := [(1, .int (text (place_52 : Int32).toNatClampNeg)), (0, .ref a0)]) hx hb dX4_nextToken_86 rfl hl (by decide) rfl (fun ls hl => ?_)
      refine lv_iload_n hx hb dX4_nextToken_87 rfl (lv_at hl 0 rfl) ?_
      refine lv_bipush (v := 97) hx hb dX4_nextToken_88 (by decide) ?_
      refine lv_icmp_lt (tgt := 133) hx hb dX4_nextToken_90 (by decide) (fun hc => ?_) (fun hc => ?_)
      · have hf := o_t hc hf
        exact J133 _ _ _ _ hf _ _ _ hP hD hS (lv_sub hl [1, 0] rfl)
      · have hf := o_f hc hf
        refine lv_iload_n hx hb dX4_nextToken_93 rfl (lv_at hl 0 rfl) ?_
        refine lv_bipush (v := 122) hx hb dX4_nextToken_94 (by decide) ?_
        refine lv_icmp_gt (tgt := 133) hx hb dX4_nextToken_96 (by decide) (fun hc => ?_) (fun hc => ?_)
        · have hf := o_t hc hf
          exact J133 _ _ _ _ hf _ _ _ hP hD hS (lv_sub hl [1, 0] rfl)
        · have hf := o_f hc hf
          refine lv_aload_n hx hb dX4_nextToken_99 rfl (lv_at hl 1 rfl) ?_
          refine lv_bipush (v := 97) hx hb dX4_nextToken_100 (by decide) ?_
          refine lv_bipush (v := 122) hx hb dX4_nextToken_102 (by decide) ?_
          obtain ⟨place_3, hc, hf⟩ := ob1_some hf
          refine g_VV (As := [.int 97, .int 122]) (rest := []) (ws' := (w_X4_nextToken kc a0 a1 place_52 end_ place_3 kind value code loftRead startRead seedRead text)) ⟨hx, hb, hml, hown, hts⟩ hN hK hP hD hS hA (c_X4_passRun l D kc N a0 a1 place_52 end_ place_52 kind value code loftRead startRead seedRead text 97 122 place_3 hc) (cwV 2 hts gX4_nextToken_X4_passRun rfl rfl rfl (by decide +kernel) ⟨Nat.le_of_ble_eq_true rfl, Nat.le_of_ble_eq_true rfl⟩) [0, 1] [] [0, 1] (by exact ⟨rfl, rfl, by decide, rfl⟩) 0 4 rfl rfl rfl rfl hl.1 rfl (Nat.le_of_ble_eq_true rfl) dX4_nextToken_104 ⟨Nat.le_refl _, Nat.le_refl _⟩ (fun H locs hP hD hS => ?_)
          refine lv_aload_n hx hb dX4_nextToken_107 rfl (lv_at hl 1 rfl) ?_
          refine lv_aload_n hx hb dX4_nextToken_108 rfl (lv_at hl 1 rfl) ?_
          refine va_get (D := D) (ci := 4) (v := .int place_3) (C := RX4) (T := TX4) (N := 10) hx hb hts in_X4 hown hK hP 0 rfl rfl 3 (by decide) lk_30 (fun _ h9 => h9) rfl dX4_nextToken_109 ?_
          refine lv_aload_n hx hb dX4_nextToken_112 rfl (lv_at hl 1 rfl) ?_
          refine va_get (D := D) (ci := 4) (v := .int place_52) (C := RX4) (T := TX4) (N := 10) hx hb hts in_X4 hown hK hP 0 rfl rfl 0 (by decide) lk_176 (fun _ h9 => h9) rfl dX4_nextToken_113 ?_
          refine lv_isub hx hb dX4_nextToken_116 ?_
          refine lv_bipush (v := 8) hx hb dX4_nextToken_117 (by decide) ?_
          refine lv_icmp_gt (tgt := 126) hx hb dX4_nextToken_119 (by decide) (fun hc => ?_) (fun hc => ?_)
          · have hf := o_t hc hf
            refine lv_iconst (v := 4) hx hb dX4_nextToken_126 (by decide) ?_
            refine va_put (D := D) (ci := 4) (v := .int 4) (ty := .int) (C := RX4) (T := TX4) (N := 10) hx hb hts in_X4 tyX4 tyX4_ok nmX4 hown hK hP hD hS 0 rfl rfl 4 (by decide) lk_49 (fun _ h9 => h9) rfl (by decide +kernel) rfl rfl (Nat.le_of_ble_eq_true rfl) dX4_nextToken_127 (fun H locs hP hD hS => ?_)
            have hP : va_P D vwCl (w_X4_nextToken kc a0 a1 place_52 end_ place_3 4 value code loftRead startRead seedRead text) H := hP
            have hD : va_D A (w_X4_nextToken kc a0 a1 place_52 end_ place_3 4 value code loftRead startRead seedRead text) := hD
            refine lv_goto (tgt := 223) hx hb dX4_nextToken_130 (by decide) ?_
            cases hf
            exact kR _ _ _ _ hP hD hS dX4_nextToken_223
          · have hf := o_f hc hf
            refine lv_iconst (v := 1) hx hb dX4_nextToken_122 (by decide) ?_
            refine lv_goto (tgt := 127) hx hb dX4_nextToken_123 (by decide) ?_
            refine va_put (D := D) (ci := 4) (v := .int 1) (ty := .int) (C := RX4) (T := TX4) (N := 10) hx hb hts in_X4 tyX4 tyX4_ok nmX4 hown hK hP hD hS 0 rfl rfl 4 (by decide) lk_49 (fun _ h9 => h9) rfl (by decide +kernel) rfl rfl (Nat.le_of_ble_eq_true rfl) dX4_nextToken_127 (fun H locs hP hD hS => ?_)
            have hP : va_P D vwCl (w_X4_nextToken kc a0 a1 place_52 end_ place_3 1 value code loftRead startRead seedRead text) H := hP
            have hD : va_D A (w_X4_nextToken kc a0 a1 place_52 end_ place_3 1 value code loftRead startRead seedRead text) := hD
            refine lv_goto (tgt := 223) hx hb dX4_nextToken_130 (by decide) ?_
            cases hf
            exact kR _ _ _ _ hP hD hS dX4_nextToken_223
    · have hf := o_f hc hf
      refine lv_aload_n hx hb dX4_nextToken_71 rfl (lv_at hl 0 rfl) ?_
      refine lv_iconst (v := 0) hx hb dX4_nextToken_72 (by decide) ?_
      refine va_put (D := D) (ci := 4) (v := .int 0) (ty := .int) (C := RX4) (T := TX4) (N := 10) hx hb hts in_X4 tyX4 tyX4_ok nmX4 hown hK hP hD hS 0 rfl rfl 4 (by decide) lk_49 (fun _ h9 => h9) rfl (by decide +kernel) rfl rfl (Nat.le_of_ble_eq_true rfl) dX4_nextToken_73 (fun H locs hP hD hS => ?_)
      have hP : va_P D vwCl (w_X4_nextToken kc a0 a1 place_52 end_ place_52 0 value code loftRead startRead seedRead text) H := hP
      have hD : va_D A (w_X4_nextToken kc a0 a1 place_52 end_ place_52 0 value code loftRead startRead seedRead text) := hD
      cases hf
      exact kR _ _ _ _ hP hD hS dX4_nextToken_76
  unfold f_X4_nextToken at hf
  have L0 : ∀ (n : Nat) (place_0 : Int32) (place_0o : Int32), f_X4_nextToken_0 N end_ text n place_0 = some place_0o → (∀ (H : Heap) (locs : List Loc) (ls : Array Slot), va_P D vwCl (w_X4_nextToken kc a0 a1 start end_ place_0o kind value code loftRead startRead seedRead text) H → va_D A (w_X4_nextToken kc a0 a1 start end_ place_0o kind value code loftRead startRead seedRead text) → va_S A s.heap H locs → lv_has ls 2 [(0, .ref a0)] → W p l e ({ frames := 1, cells := 0, slots := 0, locals := 22 }) s m (([.ref a0] : List Value).toArray) below meth c H locs 0 0 Q (F0 m 52 ls [])) → ∀ (H : Heap) (locs : List Loc) (ls : Array Slot), va_P D vwCl (w_X4_nextToken kc a0 a1 start end_ place_0 kind value code loftRead startRead seedRead text) H → va_D A (w_X4_nextToken kc a0 a1 start end_ place_0 kind value code loftRead startRead seedRead text) → va_S A s.heap H locs → lv_has ls 2 [(0, .ref a0)] → W p l e ({ frames := 1, cells := 0, slots := 0, locals := 22 }) s m (([.ref a0] : List Value).toArray) below meth c H locs 0 0 Q (F0 m 0 ls []) := by
    intro n
    induction n with
    | zero => intro _ _ hf; rw [f_X4_nextToken_0.eq_1] at hf; cases hf
    | succ n ih =>
      intro place_0 place_0o hf hk H locs ls hP hD hS hl
      rw [f_X4_nextToken_0.eq_2] at hf
      refine lv_aload_n hx hb dX4_nextToken_0 rfl (lv_at hl 0 rfl) ?_
      refine va_get (D := D) (ci := 4) (v := .int place_0) (C := RX4) (T := TX4) (N := 10) hx hb hts in_X4 hown hK hP 0 rfl rfl 3 (by decide) lk_30 (fun _ h9 => h9) rfl dX4_nextToken_1 ?_
      refine lv_aload_n hx hb dX4_nextToken_4 rfl (lv_at hl 0 rfl) ?_
      refine va_get (D := D) (ci := 4) (v := .int end_) (C := RX4) (T := TX4) (N := 10) hx hb hts in_X4 hown hK hP 0 rfl rfl 2 (by decide) lk_26 (fun _ h9 => h9) rfl dX4_nextToken_5 ?_
      refine lv_icmp_ge (tgt := 52) hx hb dX4_nextToken_8 (by decide) (fun hc => ?_) (fun hc => ?_)
      · have hf := o_t hc hf
        cases hf
        exact hk _ _ _ hP hD hS (lv_sub hl [0] rfl)
      · have hf := o_f hc hf
        refine lv_aload_n hx hb dX4_nextToken_11 rfl (lv_at hl 0 rfl) ?_
        refine va_get (D := D) (ci := 4) (v := .ref a1) (C := RX4) (T := TX4) (N := 10) hx hb hts in_X4 hown hK hP 0 rfl rfl 1 (by decide) lk_9 (fun _ h9 => h9) rfl dX4_nextToken_12 ?_
        refine lv_aload_n hx hb dX4_nextToken_15 rfl (lv_at hl 0 rfl) ?_
        refine va_get (D := D) (ci := 4) (v := .int place_0) (C := RX4) (T := TX4) (N := 10) hx hb hts in_X4 hown hK hP 0 rfl rfl 3 (by decide) lk_30 (fun _ h9 => h9) rfl dX4_nextToken_16 ?_
        obtain ⟨hi, hf⟩ := gIx_some hf
        refine va_bald hx hb hK hP 1 0 rfl rfl hi dX4_nextToken_19 ?_
        refine lv_bipush (v := 32) hx hb dX4_nextToken_20 (by decide) ?_
        refine lv_icmp_eq (tgt := 39) hx hb dX4_nextToken_22 (by decide) (fun hc => ?_) (fun hc => ?_)
        · have hf := o_t hc hf
          refine lv_aload_n hx hb dX4_nextToken_39 rfl (lv_at hl 0 rfl) ?_
          refine lv_dup hx hb dX4_nextToken_40 rfl ?_
          refine va_get (D := D) (ci := 4) (v := .int place_0) (C := RX4) (T := TX4) (N := 10) hx hb hts in_X4 hown hK hP 0 rfl rfl 3 (by decide) lk_30 (fun _ h9 => h9) rfl dX4_nextToken_41 ?_
          refine lv_iconst (v := 1) hx hb dX4_nextToken_44 (by decide) ?_
          refine lv_iadd hx hb dX4_nextToken_45 ?_
          refine va_put (D := D) (ci := 4) (v := .int (place_0 + 1)) (ty := .int) (C := RX4) (T := TX4) (N := 10) hx hb hts in_X4 tyX4 tyX4_ok nmX4 hown hK hP hD hS 0 rfl rfl 3 (by decide) lk_30 (fun _ h9 => h9) rfl (by decide +kernel) rfl rfl (Nat.le_of_ble_eq_true rfl) dX4_nextToken_46 (fun H locs hP hD hS => ?_)
          have hP : va_P D vwCl (w_X4_nextToken kc a0 a1 start end_ (place_0 + 1) kind value code loftRead startRead seedRead text) H := hP
          have hD : va_D A (w_X4_nextToken kc a0 a1 start end_ (place_0 + 1) kind value code loftRead startRead seedRead text) := hD
          refine lv_goto (tgt := 0) hx hb dX4_nextToken_49 (by decide) ?_
          exact ih _ _ hf hk _ _ _ hP hD hS (lv_sub hl [0] rfl)
        · have hf := o_f hc hf
          refine lv_aload_n hx hb dX4_nextToken_25 rfl (lv_at hl 0 rfl) ?_
          refine va_get (D := D) (ci := 4) (v := .ref a1) (C := RX4) (T := TX4) (N := 10) hx hb hts in_X4 hown hK hP 0 rfl rfl 1 (by decide) lk_9 (fun _ h9 => h9) rfl dX4_nextToken_26 ?_
          refine lv_aload_n hx hb dX4_nextToken_29 rfl (lv_at hl 0 rfl) ?_
          refine va_get (D := D) (ci := 4) (v := .int place_0) (C := RX4) (T := TX4) (N := 10) hx hb hts in_X4 hown hK hP 0 rfl rfl 3 (by decide) lk_30 (fun _ h9 => h9) rfl dX4_nextToken_30 ?_
          obtain ⟨hi, hf⟩ := gIx_some hf
          refine va_bald hx hb hK hP 1 0 rfl rfl hi dX4_nextToken_33 ?_
          refine lv_bipush (v := 10) hx hb dX4_nextToken_34 (by decide) ?_
          refine lv_icmp_ne (tgt := 52) hx hb dX4_nextToken_36 (by decide) (fun hc => ?_) (fun hc => ?_)
          · have hf := o_f hc hf
            cases hf
            exact hk _ _ _ hP hD hS (lv_sub hl [0] rfl)
          · have hf := o_t hc hf
            refine lv_aload_n hx hb dX4_nextToken_39 rfl (lv_at hl 0 rfl) ?_
            refine lv_dup hx hb dX4_nextToken_40 rfl ?_
            refine va_get (D := D) (ci := 4) (v := .int place_0) (C := RX4) (T := TX4) (N := 10) hx hb hts in_X4 hown hK hP 0 rfl rfl 3 (by decide) lk_30 (fun _ h9 => h9) rfl dX4_nextToken_41 ?_
            refine lv_iconst (v := 1) hx hb dX4_nextToken_44 (by decide) ?_
            refine lv_iadd hx hb dX4_nextToken_45 ?_
            refine va_put (D := D) (ci := 4) (v := .int (place_0 + 1)) (ty := .int) (C := RX4) (T := TX4) (N := 10) hx hb hts in_X4 tyX4 tyX4_ok nmX4 hown hK hP hD hS 0 rfl rfl 3 (by decide) lk_30 (fun _ h9 => h9) rfl (by decide +kernel) rfl rfl (Nat.le_of_ble_eq_true rfl) dX4_nextToken_46 (fun H locs hP hD hS => ?_)
            have hP : va_P D vwCl (w_X4_nextToken kc a0 a1 start end_ (place_0 + 1) kind value code loftRead startRead seedRead text) H := hP
            have hD : va_D A (w_X4_nextToken kc a0 a1 start end_ (place_0 + 1) kind value code loftRead startRead seedRead text) := hD
            refine lv_goto (tgt := 0) hx hb dX4_nextToken_49 (by decide) ?_
            exact ih _ _ hf hk _ _ _ hP hD hS (lv_sub hl [0] rfl)
  obtain ⟨place_0o, hc, hf⟩ := ob1_some hf
  refine L0 N _ _ hc (fun H locs ls hP hD hS hl => ?_) _ _ _ hP hD hS (lv_sub hl [0] rfl)
  exact J52 _ hf _ _ _ hP hD hS (lv_sub hl [0] rfl)
abbrev w_X4_isNumber (kc : Nat → ClassId) (a0 a1 : Nat) (start : Int32) (end_ : Int32) (place : Int32) (kind : Int32) (value : Int32) (code : Int32) (loftRead : Int32) (startRead : Int32) (seedRead : Int32) : va_W := [(a0, .inr (4, [.int start, .ref a1, .int end_, .int place, .int kind, .int value, .int code, .int loftRead, .int startRead, .int seedRead]))]
set_option maxHeartbeats 4000000 in
set_option maxRecDepth 100000 in
theorem c_X4_isNumber (l : Launch) (D : va_G) (kc : Nat → ClassId) (N : Nat) (a0 a1 : Nat) (start : Int32) (end_ : Int32) (place : Int32) (kind : Int32) (value : Int32) (code : Int32) (loftRead : Int32) (startRead : Int32) (seedRead : Int32) (x1 : Int32) (x2 : Int32) (r_ : Int32) (code' : Int32) (hf : f_X4_isNumber N kind value code x1 x2 = some (r_, code')) : MZ l yX4_isNumber wsX4_isNumber ({ frames := 1, cells := 0, slots := 0, locals := 21 }) D kc [.ref a0, .int x1, .int x2] (w_X4_isNumber kc a0 a1 start end_ place kind value code loftRead startRead seedRead) (w_X4_isNumber kc a0 a1 start end_ place kind value code' loftRead startRead seedRead) r_ := by
  refine gM_Z (cc := cX4_isNumber) (maxL := 3) (by decide) rfl (Nat.le_of_ble_eq_true rfl) ?_
  intro p e s m below meth c A ls Q hx hb hml hown hts hN hK hP hD hA hl kR
  have hS : va_S A s.heap s.heap [] := va_S.rf
  have hl : lv_has ls 3 [(0, .ref a0), (1, .int x1), (2, .int x2)] := hl
  have in_X4 : ∀ w ∈ u_ws RX4 TX4 10, w ∈ wsX4_isNumber := by decide +kernel
  have lk_49 := hts (.fieldLink RX4 49 "BalloonMail$Reader" "kind" "I") (by decide +kernel)
  have lk_120 := hts (.fieldLink RX4 120 "BalloonMail$Reader" "value" "I") (by decide +kernel)
  unfold f_X4_isNumber at hf
  refine lv_aload_n hx hb dX4_isNumber_0 rfl (lv_at hl 0 rfl) ?_
  refine va_get (D := D) (ci := 4) (v := .int kind) (C := RX4) (T := TX4) (N := 10) hx hb hts in_X4 hown hK hP 0 rfl rfl 4 (by decide) lk_49 (fun _ h9 => h9) rfl dX4_isNumber_1 ?_
  refine lv_iconst (v := 2) hx hb dX4_isNumber_4 (by decide) ?_
  refine lv_icmp_eq (tgt := 14) hx hb dX4_isNumber_5 (by decide) (fun hc => ?_) (fun hc => ?_)
  · have hf := o_t hc hf
    refine lv_aload_n hx hb dX4_isNumber_14 rfl (lv_at hl 0 rfl) ?_
    refine va_get (D := D) (ci := 4) (v := .int value) (C := RX4) (T := TX4) (N := 10) hx hb hts in_X4 hown hK hP 0 rfl rfl 5 (by decide) lk_120 (fun _ h9 => h9) rfl dX4_isNumber_15 ?_
    refine lv_iload_n hx hb dX4_isNumber_18 rfl (lv_at hl 1 rfl) ?_
    refine lv_icmp_lt (tgt := 30) hx hb dX4_isNumber_19 (by decide) (fun hc => ?_) (fun hc => ?_)
    · have hf := o_t hc hf
      refine lv_aload_n hx hb dX4_isNumber_30 rfl (lv_at hl 0 rfl) ?_
      refine lv_iconst (v := 3) hx hb dX4_isNumber_31 (by decide) ?_
      obtain ⟨r_1, code_2, hc, hf⟩ := ob2_some hf
      refine g_VZ (As := [.int 3]) (rest := []) (ws' := (w_X4_isNumber kc a0 a1 start end_ place kind value code_2 loftRead startRead seedRead)) ⟨hx, hb, hml, hown, hts⟩ hN hK hP hD hS hA (c_X4_fail l D kc N a0 a1 start end_ place kind value code loftRead startRead seedRead 3 r_1 code_2 hc) (cwV 1 hts gX4_isNumber_X4_fail rfl rfl rfl (by decide +kernel) ⟨Nat.le_of_ble_eq_true rfl, Nat.le_of_ble_eq_true rfl⟩) [0] [] [0] (by exact ⟨rfl, rfl, by decide, rfl⟩) 0 4 rfl rfl rfl rfl hl.1 rfl (Nat.le_of_ble_eq_true rfl) dX4_isNumber_32 ⟨Nat.le_refl _, Nat.le_refl _⟩ (fun H locs hz hP hD hS => ?_)
      have hz_3 := hz
      cases hf
      exact kR _ _ _ _ hz_3 hP hD hS dX4_isNumber_35
    · have hf := o_f hc hf
      refine lv_aload_n hx hb dX4_isNumber_22 rfl (lv_at hl 0 rfl) ?_
      refine va_get (D := D) (ci := 4) (v := .int value) (C := RX4) (T := TX4) (N := 10) hx hb hts in_X4 hown hK hP 0 rfl rfl 5 (by decide) lk_120 (fun _ h9 => h9) rfl dX4_isNumber_23 ?_
      refine lv_iload_n hx hb dX4_isNumber_26 rfl (lv_at hl 2 rfl) ?_
      refine lv_icmp_le (tgt := 36) hx hb dX4_isNumber_27 (by decide) (fun hc => ?_) (fun hc => ?_)
      · have hf := o_t hc hf
        refine lv_iconst (v := 1) hx hb dX4_isNumber_36 (by decide) ?_
        cases hf
        exact kR _ _ _ _ (Or.inr rfl) hP hD hS dX4_isNumber_37
      · have hf := o_f hc hf
        refine lv_aload_n hx hb dX4_isNumber_30 rfl (lv_at hl 0 rfl) ?_
        refine lv_iconst (v := 3) hx hb dX4_isNumber_31 (by decide) ?_
        obtain ⟨r_4, code_5, hc, hf⟩ := ob2_some hf
        refine g_VZ (As := [.int 3]) (rest := []) (ws' := (w_X4_isNumber kc a0 a1 start end_ place kind value code_5 loftRead startRead seedRead)) ⟨hx, hb, hml, hown, hts⟩ hN hK hP hD hS hA (c_X4_fail l D kc N a0 a1 start end_ place kind value code loftRead startRead seedRead 3 r_4 code_5 hc) (cwV 1 hts gX4_isNumber_X4_fail rfl rfl rfl (by decide +kernel) ⟨Nat.le_of_ble_eq_true rfl, Nat.le_of_ble_eq_true rfl⟩) [0] [] [0] (by exact ⟨rfl, rfl, by decide, rfl⟩) 0 4 rfl rfl rfl rfl hl.1 rfl (Nat.le_of_ble_eq_true rfl) dX4_isNumber_32 ⟨Nat.le_refl _, Nat.le_refl _⟩ (fun H locs hz hP hD hS => ?_)
        have hz_6 := hz
        cases hf
        exact kR _ _ _ _ hz_6 hP hD hS dX4_isNumber_35
  · have hf := o_f hc hf
    refine lv_aload_n hx hb dX4_isNumber_8 rfl (lv_at hl 0 rfl) ?_
    refine lv_iconst (v := 1) hx hb dX4_isNumber_9 (by decide) ?_
    obtain ⟨r_7, code_8, hc, hf⟩ := ob2_some hf
    refine g_VZ (As := [.int 1]) (rest := []) (ws' := (w_X4_isNumber kc a0 a1 start end_ place kind value code_8 loftRead startRead seedRead)) ⟨hx, hb, hml, hown, hts⟩ hN hK hP hD hS hA (c_X4_fail l D kc N a0 a1 start end_ place kind value code loftRead startRead seedRead 1 r_7 code_8 hc) (cwV 1 hts gX4_isNumber_X4_fail rfl rfl rfl (by decide +kernel) ⟨Nat.le_of_ble_eq_true rfl, Nat.le_of_ble_eq_true rfl⟩) [0] [] [0] (by exact ⟨rfl, rfl, by decide, rfl⟩) 0 4 rfl rfl rfl rfl hl.1 rfl (Nat.le_of_ble_eq_true rfl) dX4_isNumber_10 ⟨Nat.le_refl _, Nat.le_refl _⟩ (fun H locs hz hP hD hS => ?_)
    have hz_9 := hz
    cases hf
    exact kR _ _ _ _ hz_9 hP hD hS dX4_isNumber_13
abbrev w_X4_readNumber (kc : Nat → ClassId) (a0 a1 : Nat) (start : Int32) (end_ : Int32) (place : Int32) (kind : Int32) (value : Int32) (code : Int32) (loftRead : Int32) (startRead : Int32) (seedRead : Int32) (text : Nat → Int32) : va_W := [(a0, .inr (4, [.int start, .ref a1, .int end_, .int place, .int kind, .int value, .int code, .int loftRead, .int startRead, .int seedRead])), (a1, .inl (kc 0, 900, .inl text))]
set_option maxHeartbeats 4000000 in
set_option maxRecDepth 100000 in
theorem c_X4_readNumber (l : Launch) (D : va_G) (kc : Nat → ClassId) (N : Nat) (a0 a1 : Nat) (start : Int32) (end_ : Int32) (place : Int32) (kind : Int32) (value : Int32) (code : Int32) (loftRead : Int32) (startRead : Int32) (seedRead : Int32) (text : Nat → Int32) (x1 : Int32) (x2 : Int32) (r_ : Int32) (start' : Int32) (place' : Int32) (kind' : Int32) (value' : Int32) (code' : Int32) (hf : f_X4_readNumber N end_ place kind value code text x1 x2 = some (r_, start', place', kind', value', code')) : MZ l yX4_readNumber wsX4_readNumber ({ frames := 2, cells := 0, slots := 0, locals := 43 }) D kc [.ref a0, .int x1, .int x2] (w_X4_readNumber kc a0 a1 start end_ place kind value code loftRead startRead seedRead text) (w_X4_readNumber kc a0 a1 start' end_ place' kind' value' code' loftRead startRead seedRead text) r_ := by
  refine gM_Z (cc := cX4_readNumber) (maxL := 3) (by decide) rfl (Nat.le_of_ble_eq_true rfl) ?_
  intro p e s m below meth c A ls Q hx hb hml hown hts hN hK hP hD hA hl kR
  have hS : va_S A s.heap s.heap [] := va_S.rf
  have hl : lv_has ls 3 [(0, .ref a0), (1, .int x1), (2, .int x2)] := hl
  unfold f_X4_readNumber at hf
  refine lv_aload_n hx hb dX4_readNumber_0 rfl (lv_at hl 0 rfl) ?_
  obtain ⟨start_1, place_2, kind_3, value_4, hc, hf⟩ := ob4_some hf
  refine g_VV (As := []) (rest := []) (ws' := (w_X4_readNumber kc a0 a1 start_1 end_ place_2 kind_3 value_4 code loftRead startRead seedRead text)) ⟨hx, hb, hml, hown, hts⟩ hN hK hP hD hS hA (c_X4_nextToken l D kc N a0 a1 start end_ place kind value code loftRead startRead seedRead text start_1 place_2 kind_3 value_4 hc) (cwV 0 hts gX4_readNumber_X4_nextToken rfl rfl rfl (by decide +kernel) ⟨Nat.le_of_ble_eq_true rfl, Nat.le_of_ble_eq_true rfl⟩) [0, 1] [] [0, 1] (by exact ⟨rfl, rfl, by decide, rfl⟩) 0 4 rfl rfl rfl rfl hl.1 rfl (Nat.le_of_ble_eq_true rfl) dX4_readNumber_1 ⟨Nat.le_refl _, Nat.le_refl _⟩ (fun H locs hP hD hS => ?_)
  refine lv_aload_n hx hb dX4_readNumber_4 rfl (lv_at hl 0 rfl) ?_
  refine lv_iload_n hx hb dX4_readNumber_5 rfl (lv_at hl 1 rfl) ?_
  refine lv_iload_n hx hb dX4_readNumber_6 rfl (lv_at hl 2 rfl) ?_
  obtain ⟨r_5, code_6, hc, hf⟩ := ob2_some hf
  refine g_VZ (As := [.int x1, .int x2]) (rest := []) (ws' := (w_X4_readNumber kc a0 a1 start_1 end_ place_2 kind_3 value_4 code_6 loftRead startRead seedRead text)) ⟨hx, hb, hml, hown, hts⟩ hN hK hP hD hS hA (c_X4_isNumber l D kc N a0 a1 start_1 end_ place_2 kind_3 value_4 code loftRead startRead seedRead x1 x2 r_5 code_6 hc) (cwV 2 hts gX4_readNumber_X4_isNumber rfl rfl rfl (by decide +kernel) ⟨Nat.le_of_ble_eq_true rfl, Nat.le_of_ble_eq_true rfl⟩) [0] [1] [1, 0] (by exact ⟨rfl, rfl, by decide, rfl⟩) 0 4 rfl rfl rfl rfl hl.1 rfl (Nat.le_of_ble_eq_true rfl) dX4_readNumber_7 ⟨Nat.le_refl _, Nat.le_refl _⟩ (fun H locs hz hP hD hS => ?_)
  have hz_7 := hz
  cases hf
  exact kR _ _ _ _ hz_7 hP hD hS dX4_readNumber_10
abbrev w_X4_endStatement (kc : Nat → ClassId) (a0 a1 : Nat) (start : Int32) (end_ : Int32) (place : Int32) (kind : Int32) (value : Int32) (code : Int32) (loftRead : Int32) (startRead : Int32) (seedRead : Int32) (text : Nat → Int32) : va_W := [(a0, .inr (4, [.int start, .ref a1, .int end_, .int place, .int kind, .int value, .int code, .int loftRead, .int startRead, .int seedRead])), (a1, .inl (kc 0, 900, .inl text))]
set_option maxHeartbeats 4000000 in
set_option maxRecDepth 100000 in
theorem c_X4_endStatement (l : Launch) (D : va_G) (kc : Nat → ClassId) (N : Nat) (a0 a1 : Nat) (start : Int32) (end_ : Int32) (place : Int32) (kind : Int32) (value : Int32) (code : Int32) (loftRead : Int32) (startRead : Int32) (seedRead : Int32) (text : Nat → Int32) (r_ : Int32) (start' : Int32) (place' : Int32) (kind' : Int32) (value' : Int32) (code' : Int32) (hf : f_X4_endStatement N start end_ place kind value code text = some (r_, start', place', kind', value', code')) : MZ l yX4_endStatement wsX4_endStatement ({ frames := 2, cells := 0, slots := 0, locals := 43 }) D kc [.ref a0] (w_X4_endStatement kc a0 a1 start end_ place kind value code loftRead startRead seedRead text) (w_X4_endStatement kc a0 a1 start' end_ place' kind' value' code' loftRead startRead seedRead text) r_ := by
  refine gM_Z (cc := cX4_endStatement) (maxL := 1) (by decide) rfl (Nat.le_of_ble_eq_true rfl) ?_
  intro p e s m below meth c A ls Q hx hb hml hown hts hN hK hP hD hA hl kR
  have hS : va_S A s.heap s.heap [] := va_S.rf
  have hl : lv_has ls 1 [(0, .ref a0)] := hl
  have in_X4 : ∀ w ∈ u_ws RX4 TX4 10, w ∈ wsX4_endStatement := by decide +kernel
  have lk_49 := hts (.fieldLink RX4 49 "BalloonMail$Reader" "kind" "I") (by decide +kernel)
  have J12 : ∀ (start_12 : Int32) (place_12 : Int32) (kind_12 : Int32) (value_12 : Int32), f_X4_endStatement_j12 N code start_12 place_12 kind_12 value_12 = some (r_, start', place', kind', value', code') → ∀ (H : Heap) (locs : List Loc) (ls : Array Slot), va_P D vwCl (w_X4_endStatement kc a0 a1 start_12 end_ place_12 kind_12 value_12 code loftRead startRead seedRead text) H → va_D A (w_X4_endStatement kc a0 a1 start_12 end_ place_12 kind_12 value_12 code loftRead startRead seedRead text) → va_S A s.heap H locs → lv_has ls 1 [(0, .ref a0)] → W p l e ({ frames := 2, cells := 0, slots := 0, locals := 43 }) s m (([.ref a0] : List Value).toArray) below meth c H locs 0 0 Q (F0 m 12 ls []) := by
    clear hf
    intro start_12 place_12 kind_12 value_12 hf H locs ls hP hD hS hl
    unfold f_X4_endStatement_j12 at hf
    refine lv_aload_n hx hb dX4_endStatement_12 rfl (lv_at hl 0 rfl) ?_
    refine va_get (D := D) (ci := 4) (v := .int kind_12) (C := RX4) (T := TX4) (N := 10) hx hb hts in_X4 hown hK hP 0 rfl rfl 4 (by decide) lk_49 (fun _ h9 => h9) rfl dX4_endStatement_13 ?_
    refine lv_iconst (v := 3) hx hb dX4_endStatement_16 (by decide) ?_
    refine lv_icmp_eq (tgt := 28) hx hb dX4_endStatement_17 (by decide) (fun hc => ?_) (fun hc => ?_)
    · have hf := o_t hc hf
      refine lv_iconst (v := 1) hx hb dX4_endStatement_28 (by decide) ?_
      refine lv_goto (tgt := 33) hx hb dX4_endStatement_29 (by decide) ?_
      cases hf
      exact kR _ _ _ _ (Or.inr rfl) hP hD hS dX4_endStatement_33
    · have hf := o_f hc hf
      refine lv_aload_n hx hb dX4_endStatement_20 rfl (lv_at hl 0 rfl) ?_
      refine lv_iconst (v := 1) hx hb dX4_endStatement_21 (by decide) ?_
      obtain ⟨r_1, code_2, hc, hf⟩ := ob2_some hf
      refine g_VZ (As := [.int 1]) (rest := []) (ws' := (w_X4_endStatement kc a0 a1 start_12 end_ place_12 kind_12 value_12 code_2 loftRead startRead seedRead text)) ⟨hx, hb, hml, hown, hts⟩ hN hK hP hD hS hA (c_X4_fail l D kc N a0 a1 start_12 end_ place_12 kind_12 value_12 code loftRead startRead seedRead 1 r_1 code_2 hc) (cwV 1 hts gX4_endStatement_X4_fail rfl rfl rfl (by decide +kernel) ⟨Nat.le_of_ble_eq_true rfl, Nat.le_of_ble_eq_true rfl⟩) [0] [1] [1, 0] (by exact ⟨rfl, rfl, by decide, rfl⟩) 0 4 rfl rfl rfl rfl hl.1 rfl (Nat.le_of_ble_eq_true rfl) dX4_endStatement_22 ⟨Nat.le_refl _, Nat.le_refl _⟩ (fun H locs hz hP hD hS => ?_)
      have hz_3 := hz
      refine lv_if_eq (tgt := 32) hx hb dX4_endStatement_25 (by decide) (fun hc => ?_) (fun hc => ?_)
      · have hf := o_t hc hf
        refine lv_iconst (v := 0) hx hb dX4_endStatement_32 (by decide) ?_
        cases hf
        exact kR _ _ _ _ (Or.inl rfl) hP hD hS dX4_endStatement_33
      · have hf := o_f hc hf
        refine lv_iconst (v := 1) hx hb dX4_endStatement_28 (by decide) ?_
        refine lv_goto (tgt := 33) hx hb dX4_endStatement_29 (by decide) ?_
        cases hf
        exact kR _ _ _ _ (Or.inr rfl) hP hD hS dX4_endStatement_33
  unfold f_X4_endStatement at hf
  refine lv_aload_n hx hb dX4_endStatement_0 rfl (lv_at hl 0 rfl) ?_
  refine va_get (D := D) (ci := 4) (v := .int kind) (C := RX4) (T := TX4) (N := 10) hx hb hts in_X4 hown hK hP 0 rfl rfl 4 (by decide) lk_49 (fun _ h9 => h9) rfl dX4_endStatement_1 ?_
  refine lv_iconst (v := 3) hx hb dX4_endStatement_4 (by decide) ?_
  refine lv_icmp_eq (tgt := 12) hx hb dX4_endStatement_5 (by decide) (fun hc => ?_) (fun hc => ?_)
  · have hf := o_t hc hf
    exact J12 _ _ _ _ hf _ _ _ hP hD hS (lv_sub hl [0] rfl)
  · have hf := o_f hc hf
    refine lv_aload_n hx hb dX4_endStatement_8 rfl (lv_at hl 0 rfl) ?_
    obtain ⟨start_4, place_5, kind_6, value_7, hc, hf⟩ := ob4_some hf
    refine g_VV (As := []) (rest := []) (ws' := (w_X4_endStatement kc a0 a1 start_4 end_ place_5 kind_6 value_7 code loftRead startRead seedRead text)) ⟨hx, hb, hml, hown, hts⟩ hN hK hP hD hS hA (c_X4_nextToken l D kc N a0 a1 start end_ place kind value code loftRead startRead seedRead text start_4 place_5 kind_6 value_7 hc) (cwV 0 hts gX4_endStatement_X4_nextToken rfl rfl rfl (by decide +kernel) ⟨Nat.le_of_ble_eq_true rfl, Nat.le_of_ble_eq_true rfl⟩) [0, 1] [] [0, 1] (by exact ⟨rfl, rfl, by decide, rfl⟩) 0 4 rfl rfl rfl rfl hl.1 rfl (Nat.le_of_ble_eq_true rfl) dX4_endStatement_9 ⟨Nat.le_refl _, Nat.le_refl _⟩ (fun H locs hP hD hS => ?_)
    exact J12 _ _ _ _ hf _ _ _ hP hD hS (lv_sub hl [0] rfl)
abbrev w_X4_readRegion (kc : Nat → ClassId) (a0 a1 a2 a3 a4 a5 a6 a7 a8 a9 a10 : Nat) (regions : Int32) (balloons : Int32) (letters : Int32) (loft : Int32) (start : Int32) (seed : Int32) (start2 : Int32) (end_ : Int32) (place : Int32) (kind : Int32) (value : Int32) (code : Int32) (loftRead : Int32) (startRead : Int32) (seedRead : Int32) (text : Nat → Int32) (risk : Nat → Int32) (distance : Nat → Int32) (comeback : Nat → Int32) : va_W := [(a0, .inr (5, [.ref a1, .ref a2, .ref a3, .ref a4, .ref a5, .ref a6, .ref a7, .ref a8, .int regions, .int balloons, .int letters, .int loft, .int start, .int seed])), (a9, .inr (4, [.int start2, .ref a10, .int end_, .int place, .int kind, .int value, .int code, .int loftRead, .int startRead, .int seedRead])), (a10, .inl (kc 0, 900, .inl text)), (a2, .inl (kc 1, 8, .inl risk)), (a3, .inl (kc 1, 8, .inl distance)), (a4, .inl (kc 1, 8, .inl comeback))]
set_option maxHeartbeats 4000000 in
set_option maxRecDepth 100000 in
theorem c_X4_readRegion (l : Launch) (D : va_G) (kc : Nat → ClassId) (N : Nat) (a0 a1 a2 a3 a4 a5 a6 a7 a8 a9 a10 : Nat) (regions : Int32) (balloons : Int32) (letters : Int32) (loft : Int32) (start : Int32) (seed : Int32) (start2 : Int32) (end_ : Int32) (place : Int32) (kind : Int32) (value : Int32) (code : Int32) (loftRead : Int32) (startRead : Int32) (seedRead : Int32) (text : Nat → Int32) (risk : Nat → Int32) (distance : Nat → Int32) (comeback : Nat → Int32) (r_ : Int32) (regions' : Int32) (start2' : Int32) (place' : Int32) (kind' : Int32) (value' : Int32) (code' : Int32) (risk' : Nat → Int32) (distance' : Nat → Int32) (comeback' : Nat → Int32) (hf : f_X4_readRegion N regions start2 end_ place kind value code text risk distance comeback = some (r_, regions', start2', place', kind', value', code', risk', distance', comeback')) : MZ l yX4_readRegion wsX4_readRegion ({ frames := 3, cells := 0, slots := 0, locals := 65 }) D kc [.ref a9, .ref a0] (w_X4_readRegion kc a0 a1 a2 a3 a4 a5 a6 a7 a8 a9 a10 regions balloons letters loft start seed start2 end_ place kind value code loftRead startRead seedRead text risk distance comeback) (w_X4_readRegion kc a0 a1 a2 a3 a4 a5 a6 a7 a8 a9 a10 regions' balloons letters loft start seed start2' end_ place' kind' value' code' loftRead startRead seedRead text risk' distance' comeback') r_ := by
  refine gM_Z (cc := cX4_readRegion) (maxL := 4) (by decide) rfl (Nat.le_of_ble_eq_true rfl) ?_
  intro p e s m below meth c A ls Q hx hb hml hown hts hN hK hP hD hA hl kR
  have hS : va_S A s.heap s.heap [] := va_S.rf
  have hl : lv_has ls 4 [(0, .ref a9), (1, .ref a0)] := hl
  have in_X5 : ∀ w ∈ u_ws RX5 TX5 14, w ∈ wsX4_readRegion := by decide +kernel
  have lk_113 := hts (.fieldLink RX4 113 "BalloonMail$Siege" "regions" "I") (by decide +kernel)
  have in_X4 : ∀ w ∈ u_ws RX4 TX4 10, w ∈ wsX4_readRegion := by decide +kernel
  have lk_120 := hts (.fieldLink RX4 120 "BalloonMail$Reader" "value" "I") (by decide +kernel)
  unfold f_X4_readRegion at hf
  refine lv_aload_n hx hb dX4_readRegion_0 rfl (lv_at hl 1 rfl) ?_
  refine va_get (D := D) (ci := 5) (v := .int regions) (C := RX5) (T := TX5) (N := 14) hx hb hts in_X5 hown hK hP 0 rfl rfl 8 (by decide) lk_113 (fun _ h9 => h9) rfl dX4_readRegion_1 ?_
  refine lv_bipush (v := 8) hx hb dX4_readRegion_4 (by decide) ?_
  refine lv_icmp_lt (tgt := 15) hx hb dX4_readRegion_6 (by decide) (fun hc => ?_) (fun hc => ?_)
  · have hf := o_t hc hf
    refine lv_aload_n hx hb dX4_readRegion_15 rfl (lv_at hl 0 rfl) ?_
    refine lv_iconst (v := 0) hx hb dX4_readRegion_16 (by decide) ?_
    refine lv_bipush (v := 10) hx hb dX4_readRegion_17 (by decide) ?_
    obtain ⟨r_1, start2_2, place_3, kind_4, value_5, code_6, hc, hf⟩ := ob6_some hf
    refine g_VZ (As := [.int 0, .int 10]) (rest := []) (ws' := (w_X4_readRegion kc a0 a1 a2 a3 a4 a5 a6 a7 a8 a9 a10 regions balloons letters loft start seed start2_2 end_ place_3 kind_4 value_5 code_6 loftRead startRead seedRead text risk distance comeback)) ⟨hx, hb, hml, hown, hts⟩ hN hK hP hD hS hA (c_X4_readNumber l D kc N a9 a10 start2 end_ place kind value code loftRead startRead seedRead text 0 10 r_1 start2_2 place_3 kind_4 value_5 code_6 hc) (cwV 2 hts gX4_readRegion_X4_readNumber rfl rfl rfl (by decide +kernel) ⟨Nat.le_of_ble_eq_true rfl, Nat.le_of_ble_eq_true rfl⟩) [1, 2] [0, 3, 4, 5] [0, 4, 5, 1, 2, 3] (by exact ⟨rfl, rfl, by decide, rfl⟩) 1 4 rfl rfl rfl rfl hl.1 rfl (Nat.le_of_ble_eq_true rfl) dX4_readRegion_19 ⟨Nat.le_refl _, Nat.le_refl _⟩ (fun H locs hz hP hD hS => ?_)
    have hz_7 := hz
    refine lv_if_ne (tgt := 27) hx hb dX4_readRegion_22 (by decide) (fun hc => ?_) (fun hc => ?_)
    · have hf := o_f hc hf
      refine lv_aload_n hx hb dX4_readRegion_27 rfl (lv_at hl 0 rfl) ?_
      refine va_get (D := D) (ci := 4) (v := .int value_5) (C := RX4) (T := TX4) (N := 10) hx hb hts in_X4 hown hK hP 1 rfl rfl 5 (by decide) lk_120 (fun _ h9 => h9) rfl dX4_readRegion_28 ?_
      refine lv_istore_n (lv' := [(2, .int value_5), (0, .ref a9), (1, .ref a0)]) hx hb dX4_readRegion_31 rfl hl (by decide) rfl (fun ls hl => ?_)
      refine lv_aload_n hx hb dX4_readRegion_32 rfl (lv_at hl 1 rfl) ?_
      refine lv_iconst (v := 1) hx hb dX4_readRegion_33 (by decide) ?_
      refine lv_bipush (v := 9) hx hb dX4_readRegion_34 (by decide) ?_
      obtain ⟨r_8, start2_9, place_10, kind_11, value_12, code_13, hc, hf⟩ := ob6_some hf
      refine g_VZ (As := [.int 1, .int 9]) (rest := []) (ws' := (w_X4_readRegion kc a0 a1 a2 a3 a4 a5 a6 a7 a8 a9 a10 regions balloons letters loft start seed start2_9 end_ place_10 kind_11 value_12 code_13 loftRead startRead seedRead text risk distance comeback)) ⟨hx, hb, hml, hown, hts⟩ hN hK hP hD hS hA (c_X4_readNumber l D kc N a9 a10 start2_2 end_ place_3 kind_4 value_5 code_6 loftRead startRead seedRead text 1 9 r_8 start2_9 place_10 kind_11 value_12 code_13 hc) (cwV 2 hts gX4_readRegion_X4_readNumber rfl rfl rfl (by decide +kernel) ⟨Nat.le_of_ble_eq_true rfl, Nat.le_of_ble_eq_true rfl⟩) [1, 2] [0, 3, 4, 5] [0, 4, 5, 1, 2, 3] (by exact ⟨rfl, rfl, by decide, rfl⟩) 1 4 rfl rfl rfl rfl hl.1 rfl (Nat.le_of_ble_eq_true rfl) dX4_readRegion_36 ⟨Nat.le_refl _, Nat.le_refl _⟩ (fun H locs hz hP hD hS => ?_)
      have hz_14 := hz
      refine lv_if_ne (tgt := 44) hx hb dX4_readRegion_39 (by decide) (fun hc => ?_) (fun hc => ?_)
      · have hf := o_f hc hf
        refine lv_aload_n hx hb dX4_readRegion_44 rfl (lv_at hl 1 rfl) ?_
        refine va_get (D := D) (ci := 4) (v := .int value_12) (C := RX4) (T := TX4) (N := 10) hx hb hts in_X4 hown hK hP 1 rfl rfl 5 (by decide) lk_120 (fun _ h9 => h9) rfl dX4_readRegion_45 ?_
        refine lv_istore_n (lv' := [(3, .int value_12), (2, .int value_5), (0, .ref a9), (1, .ref a0)]) hx hb dX4_readRegion_48 rfl hl (by decide) rfl (fun ls hl => ?_)
        refine lv_aload_n hx hb dX4_readRegion_49 rfl (lv_at hl 2 rfl) ?_
        refine lv_iconst (v := 0) hx hb dX4_readRegion_50 (by decide) ?_
        refine lv_bipush (v := 10) hx hb dX4_readRegion_51 (by decide) ?_
        obtain ⟨r_15, start2_16, place_17, kind_18, value_19, code_20, hc, hf⟩ := ob6_some hf
        refine g_VZ (As := [.int 0, .int 10]) (rest := []) (ws' := (w_X4_readRegion kc a0 a1 a2 a3 a4 a5 a6 a7 a8 a9 a10 regions balloons letters loft start seed start2_16 end_ place_17 kind_18 value_19 code_20 loftRead startRead seedRead text risk distance comeback)) ⟨hx, hb, hml, hown, hts⟩ hN hK hP hD hS hA (c_X4_readNumber l D kc N a9 a10 start2_9 end_ place_10 kind_11 value_12 code_13 loftRead startRead seedRead text 0 10 r_15 start2_16 place_17 kind_18 value_19 code_20 hc) (cwV 2 hts gX4_readRegion_X4_readNumber rfl rfl rfl (by decide +kernel) ⟨Nat.le_of_ble_eq_true rfl, Nat.le_of_ble_eq_true rfl⟩) [1, 2] [0, 3, 4, 5] [0, 4, 5, 1, 2, 3] (by exact ⟨rfl, rfl, by decide, rfl⟩) 1 4 rfl rfl rfl rfl hl.1 rfl (Nat.le_of_ble_eq_true rfl) dX4_readRegion_53 ⟨Nat.le_refl _, Nat.le_refl _⟩ (fun H locs hz hP hD hS => ?_)
        have hz_21 := hz
        refine lv_if_ne (tgt := 61) hx hb dX4_readRegion_56 (by decide) (fun hc => ?_) (fun hc => ?_)
        · have hf := o_f hc hf
          refine lv_aload_n hx hb dX4_readRegion_61 rfl (lv_at hl 3 rfl) ?_
          refine lv_iload_n hx hb dX4_readRegion_62 rfl (lv_at hl 1 rfl) ?_
          refine lv_iload_n hx hb dX4_readRegion_63 rfl (lv_at hl 0 rfl) ?_
          refine lv_aload_n hx hb dX4_readRegion_64 rfl (lv_at hl 2 rfl) ?_
          refine va_get (D := D) (ci := 4) (v := .int value_19) (C := RX4) (T := TX4) (N := 10) hx hb hts in_X4 hown hK hP 1 rfl rfl 5 (by decide) lk_120 (fun _ h9 => h9) rfl dX4_readRegion_65 ?_
          obtain ⟨regions_22, risk_23, distance_24, comeback_25, hc, hf⟩ := ob4_some hf
          refine g_VV (As := [.int value_5, .int value_12, .int value_19]) (rest := []) (ws' := (w_X4_readRegion kc a0 a1 a2 a3 a4 a5 a6 a7 a8 a9 a10 regions_22 balloons letters loft start seed start2_16 end_ place_17 kind_18 value_19 code_20 loftRead startRead seedRead text risk_23 distance_24 comeback_25)) ⟨hx, hb, hml, hown, hts⟩ hN hK hP hD hS hA (c_X5_addRegion l D kc N a0 a1 a2 a3 a4 a5 a6 a7 a8 regions balloons letters loft start seed risk distance comeback value_5 value_12 value_19 regions_22 risk_23 distance_24 comeback_25 hc) (cwV 3 hts gX4_readRegion_X5_addRegion rfl rfl rfl (by decide +kernel) ⟨Nat.le_of_ble_eq_true rfl, Nat.le_of_ble_eq_true rfl⟩) [0, 3, 4, 5] [1, 2] [2, 0, 1, 3, 4, 5] (by exact ⟨rfl, rfl, by decide, rfl⟩) 0 5 rfl rfl rfl rfl hl.1 rfl (Nat.le_of_ble_eq_true rfl) dX4_readRegion_68 ⟨Nat.le_refl _, Nat.le_refl _⟩ (fun H locs hP hD hS => ?_)
          refine lv_iconst (v := 1) hx hb dX4_readRegion_71 (by decide) ?_
          cases hf
          exact kR _ _ _ _ (Or.inr rfl) hP hD hS dX4_readRegion_72
        · have hf := o_t hc hf
          refine lv_iconst (v := 0) hx hb dX4_readRegion_59 (by decide) ?_
          cases hf
          exact kR _ _ _ _ (Or.inl rfl) hP hD hS dX4_readRegion_60
      · have hf := o_t hc hf
        refine lv_iconst (v := 0) hx hb dX4_readRegion_42 (by decide) ?_
        cases hf
        exact kR _ _ _ _ (Or.inl rfl) hP hD hS dX4_readRegion_43
    · have hf := o_t hc hf
      refine lv_iconst (v := 0) hx hb dX4_readRegion_25 (by decide) ?_
      cases hf
      exact kR _ _ _ _ (Or.inl rfl) hP hD hS dX4_readRegion_26
  · have hf := o_f hc hf
    refine lv_aload_n hx hb dX4_readRegion_9 rfl (lv_at hl 0 rfl) ?_
    refine lv_iconst (v := 4) hx hb dX4_readRegion_10 (by decide) ?_
    obtain ⟨r_26, code_27, hc, hf⟩ := ob2_some hf
    refine g_VZ (As := [.int 4]) (rest := []) (ws' := (w_X4_readRegion kc a0 a1 a2 a3 a4 a5 a6 a7 a8 a9 a10 regions balloons letters loft start seed start2 end_ place kind value code_27 loftRead startRead seedRead text risk distance comeback)) ⟨hx, hb, hml, hown, hts⟩ hN hK hP hD hS hA (c_X4_fail l D kc N a9 a10 start2 end_ place kind value code loftRead startRead seedRead 4 r_26 code_27 hc) (cwV 1 hts gX4_readRegion_X4_fail rfl rfl rfl (by decide +kernel) ⟨Nat.le_of_ble_eq_true rfl, Nat.le_of_ble_eq_true rfl⟩) [1] [0, 2, 3, 4, 5] [0, 5, 1, 2, 3, 4] (by exact ⟨rfl, rfl, by decide, rfl⟩) 1 4 rfl rfl rfl rfl hl.1 rfl (Nat.le_of_ble_eq_true rfl) dX4_readRegion_11 ⟨Nat.le_refl _, Nat.le_refl _⟩ (fun H locs hz hP hD hS => ?_)
    have hz_28 := hz
    cases hf
    exact kR _ _ _ _ hz_28 hP hD hS dX4_readRegion_14
abbrev w_X4_readAim (kc : Nat → ClassId) (a0 a1 a2 a3 a4 a5 a6 a7 a8 a9 a10 a11 a12 a13 a14 a15 a16 : Nat) (regions : Int32) (balloons : Int32) (letters : Int32) (loft : Int32) (start : Int32) (seed : Int32) (start2 : Int32) (end_ : Int32) (place : Int32) (kind : Int32) (value : Int32) (code : Int32) (loftRead : Int32) (startRead : Int32) (seedRead : Int32) (count : Int32) (turnCount : Int32) (land : Nat → Int32) (text : Nat → Int32) (aimCount : Nat → Int32) (aim : Nat → Int32) : va_W := [(a0, .inr (5, [.ref a1, .ref a2, .ref a3, .ref a4, .ref a5, .ref a6, .ref a7, .ref a8, .int regions, .int balloons, .int letters, .int loft, .int start, .int seed])), (a9, .inr (4, [.int start2, .ref a10, .int end_, .int place, .int kind, .int value, .int code, .int loftRead, .int startRead, .int seedRead])), (a1, .inr (7, [.int count, .int turnCount, .ref a11, .ref a12, .ref a13, .ref a14, .ref a15, .ref a16])), (a14, .inl (kc 1, 54, .inl land)), (a10, .inl (kc 0, 900, .inl text)), (a15, .inl (kc 1, 6, .inl aimCount)), (a16, .inl (kc 1, 48, .inl aim))]
set_option maxHeartbeats 4000000 in
set_option maxRecDepth 100000 in
theorem c_X4_readAim (l : Launch) (D : va_G) (kc : Nat → ClassId) (N : Nat) (a0 a1 a2 a3 a4 a5 a6 a7 a8 a9 a10 a11 a12 a13 a14 a15 a16 : Nat) (regions : Int32) (balloons : Int32) (letters : Int32) (loft : Int32) (start : Int32) (seed : Int32) (start2 : Int32) (end_ : Int32) (place : Int32) (kind : Int32) (value : Int32) (code : Int32) (loftRead : Int32) (startRead : Int32) (seedRead : Int32) (count : Int32) (turnCount : Int32) (land : Nat → Int32) (text : Nat → Int32) (aimCount : Nat → Int32) (aim : Nat → Int32) (x2 : Int32) (r_ : Int32) (start2' : Int32) (place' : Int32) (kind' : Int32) (value' : Int32) (code' : Int32) (land' : Nat → Int32) (aimCount' : Nat → Int32) (aim' : Nat → Int32) (hf : f_X4_readAim N regions start2 end_ place kind value code count land text aimCount aim x2 = some (r_, start2', place', kind', value', code', land', aimCount', aim')) : MZ l yX4_readAim wsX4_readAim ({ frames := 3, cells := 0, slots := 0, locals := 65 }) D kc [.ref a9, .ref a0, .int x2] (w_X4_readAim kc a0 a1 a2 a3 a4 a5 a6 a7 a8 a9 a10 a11 a12 a13 a14 a15 a16 regions balloons letters loft start seed start2 end_ place kind value code loftRead startRead seedRead count turnCount land text aimCount aim) (w_X4_readAim kc a0 a1 a2 a3 a4 a5 a6 a7 a8 a9 a10 a11 a12 a13 a14 a15 a16 regions balloons letters loft start seed start2' end_ place' kind' value' code' loftRead startRead seedRead count turnCount land' text aimCount' aim') r_ := by
  refine gM_Z (cc := cX4_readAim) (maxL := 4) (by decide) rfl (Nat.le_of_ble_eq_true rfl) ?_
  intro p e s m below meth c A ls Q hx hb hml hown hts hN hK hP hD hA hl kR
  have hS : va_S A s.heap s.heap [] := va_S.rf
  have hl : lv_has ls 4 [(0, .ref a9), (1, .ref a0), (2, .int x2)] := hl
  have in_X5 : ∀ w ∈ u_ws RX5 TX5 14, w ∈ wsX4_readAim := by decide +kernel
  have lk_113 := hts (.fieldLink RX4 113 "BalloonMail$Siege" "regions" "I") (by decide +kernel)
  have in_X4 : ∀ w ∈ u_ws RX4 TX4 10, w ∈ wsX4_readAim := by decide +kernel
  have lk_120 := hts (.fieldLink RX4 120 "BalloonMail$Reader" "value" "I") (by decide +kernel)
  have lk_80 := hts (.fieldLink RX4 80 "BalloonMail$Siege" "winds" "LBalloonMail$Winds;") (by decide +kernel)
  unfold f_X4_readAim at hf
  refine lv_aload_n hx hb dX4_readAim_0 rfl (lv_at hl 0 rfl) ?_
  refine lv_iconst (v := 0) hx hb dX4_readAim_1 (by decide) ?_
  refine lv_aload_n hx hb dX4_readAim_2 rfl (lv_at hl 1 rfl) ?_
  refine va_get (D := D) (ci := 5) (v := .int regions) (C := RX5) (T := TX5) (N := 14) hx hb hts in_X5 hown hK hP 0 rfl rfl 8 (by decide) lk_113 (fun _ h9 => h9) rfl dX4_readAim_3 ?_
  refine lv_iconst (v := 1) hx hb dX4_readAim_6 (by decide) ?_
  refine lv_isub hx hb dX4_readAim_7 ?_
  obtain ⟨r_1, code_2, hc, hf⟩ := ob2_some hf
  refine g_VZ (As := [.int 0, .int (regions - 1)]) (rest := []) (ws' := (w_X4_readAim kc a0 a1 a2 a3 a4 a5 a6 a7 a8 a9 a10 a11 a12 a13 a14 a15 a16 regions balloons letters loft start seed start2 end_ place kind value code_2 loftRead startRead seedRead count turnCount land text aimCount aim)) ⟨hx, hb, hml, hown, hts⟩ hN hK hP hD hS hA (c_X4_isNumber l D kc N a9 a10 start2 end_ place kind value code loftRead startRead seedRead 0 (regions - 1) r_1 code_2 hc) (cwV 2 hts gX4_readAim_X4_isNumber rfl rfl rfl (by decide +kernel) ⟨Nat.le_of_ble_eq_true rfl, Nat.le_of_ble_eq_true rfl⟩) [1] [0, 2, 3, 4, 5, 6] [0, 6, 1, 2, 3, 4, 5] (by exact ⟨rfl, rfl, by decide, rfl⟩) 1 4 rfl rfl rfl rfl hl.1 rfl (Nat.le_of_ble_eq_true rfl) dX4_readAim_8 ⟨Nat.le_refl _, Nat.le_refl _⟩ (fun H locs hz hP hD hS => ?_)
  have hz_3 := hz
  refine lv_if_ne (tgt := 16) hx hb dX4_readAim_11 (by decide) (fun hc => ?_) (fun hc => ?_)
  · have hf := o_f hc hf
    refine lv_aload_n hx hb dX4_readAim_16 rfl (lv_at hl 0 rfl) ?_
    refine va_get (D := D) (ci := 4) (v := .int value) (C := RX4) (T := TX4) (N := 10) hx hb hts in_X4 hown hK hP 1 rfl rfl 5 (by decide) lk_120 (fun _ h9 => h9) rfl dX4_readAim_17 ?_
    refine lv_istore_n (lv' := [(3, .int value), (0, .ref a9), (1, .ref a0), (2, .int x2)]) hx hb dX4_readAim_20 rfl hl (by decide) rfl (fun ls hl => ?_)
    refine lv_aload_n hx hb dX4_readAim_21 rfl (lv_at hl 2 rfl) ?_
    refine va_get (D := D) (ci := 5) (v := .ref a1) (C := RX5) (T := TX5) (N := 14) hx hb hts in_X5 hown hK hP 0 rfl rfl 0 (by decide) lk_80 (fun _ h9 => h9) rfl dX4_readAim_22 ?_
    refine lv_iload_n hx hb dX4_readAim_25 rfl (lv_at hl 3 rfl) ?_
    refine lv_iload_n hx hb dX4_readAim_26 rfl (lv_at hl 0 rfl) ?_
    obtain ⟨r_4, hc, hf⟩ := ob1_some hf
    refine g_VI (As := [.int x2, .int value]) (rest := []) (ws' := (w_X4_readAim kc a0 a1 a2 a3 a4 a5 a6 a7 a8 a9 a10 a11 a12 a13 a14 a15 a16 regions balloons letters loft start seed start2 end_ place kind value code_2 loftRead startRead seedRead count turnCount land text aimCount aim)) ⟨hx, hb, hml, hown, hts⟩ hN hK hP hD hS hA (c_X7_landTenths l D kc N a1 a11 a12 a13 a14 a15 a16 count turnCount land x2 value r_4 hc) (cwV 2 hts gX4_readAim_X7_landTenths rfl rfl rfl (by decide +kernel) ⟨Nat.le_of_ble_eq_true rfl, Nat.le_of_ble_eq_true rfl⟩) [2, 3] [0, 1, 4, 5, 6] [0, 1, 5, 6, 2, 3, 4] (by exact ⟨rfl, rfl, by decide, rfl⟩) 2 7 rfl rfl rfl rfl hl.1 rfl (Nat.le_of_ble_eq_true rfl) dX4_readAim_27 ⟨Nat.le_refl _, Nat.le_refl _⟩ (fun H locs hP hD hS => ?_)
    refine lv_if_le (tgt := 39) hx hb dX4_readAim_30 (by decide) (fun hc => ?_) (fun hc => ?_)
    · have hf := o_t hc hf
      refine lv_aload_n hx hb dX4_readAim_39 rfl (lv_at hl 1 rfl) ?_
      refine lv_iconst (v := 1) hx hb dX4_readAim_40 (by decide) ?_
      refine lv_aload_n hx hb dX4_readAim_41 rfl (lv_at hl 2 rfl) ?_
      refine va_get (D := D) (ci := 5) (v := .ref a1) (C := RX5) (T := TX5) (N := 14) hx hb hts in_X5 hown hK hP 0 rfl rfl 0 (by decide) lk_80 (fun _ h9 => h9) rfl dX4_readAim_42 ?_
      refine lv_iload_n hx hb dX4_readAim_45 rfl (lv_at hl 3 rfl) ?_
      refine lv_bipush (v := 8) hx hb dX4_readAim_46 (by decide) ?_
      obtain ⟨r_5, hc, hf⟩ := ob1_some hf
      refine g_VI (As := [.int x2, .int 8]) (rest := [.int 1, .ref a9]) (ws' := (w_X4_readAim kc a0 a1 a2 a3 a4 a5 a6 a7 a8 a9 a10 a11 a12 a13 a14 a15 a16 regions balloons letters loft start seed start2 end_ place kind value code_2 loftRead startRead seedRead count turnCount land text aimCount aim)) ⟨hx, hb, hml, hown, hts⟩ hN hK hP hD hS hA (c_X7_landTenths l D kc N a1 a11 a12 a13 a14 a15 a16 count turnCount land x2 8 r_5 hc) (cwV 2 hts gX4_readAim_X7_landTenths rfl rfl rfl (by decide +kernel) ⟨Nat.le_of_ble_eq_true rfl, Nat.le_of_ble_eq_true rfl⟩) [2, 3] [0, 1, 4, 5, 6] [0, 1, 5, 6, 2, 3, 4] (by exact ⟨rfl, rfl, by decide, rfl⟩) 2 7 rfl rfl rfl rfl hl.1 rfl (Nat.le_of_ble_eq_true rfl) dX4_readAim_48 ⟨Nat.le_refl _, Nat.le_refl _⟩ (fun H locs hP hD hS => ?_)
      obtain ⟨r_6, start2_7, place_8, kind_9, value_10, code_11, hc, hf⟩ := ob6_some hf
      refine g_VZ (As := [.int 1, .int r_5]) (rest := []) (ws' := (w_X4_readAim kc a0 a1 a2 a3 a4 a5 a6 a7 a8 a9 a10 a11 a12 a13 a14 a15 a16 regions balloons letters loft start seed start2_7 end_ place_8 kind_9 value_10 code_11 loftRead startRead seedRead count turnCount land text aimCount aim)) ⟨hx, hb, hml, hown, hts⟩ hN hK hP hD hS hA (c_X4_readNumber l D kc N a9 a10 start2 end_ place kind value code_2 loftRead startRead seedRead text 1 r_5 r_6 start2_7 place_8 kind_9 value_10 code_11 hc) (cwV 2 hts gX4_readAim_X4_readNumber rfl rfl rfl (by decide +kernel) ⟨Nat.le_of_ble_eq_true rfl, Nat.le_of_ble_eq_true rfl⟩) [1, 4] [0, 2, 3, 5, 6] [0, 5, 1, 2, 6, 3, 4] (by exact ⟨rfl, rfl, by decide, rfl⟩) 1 4 rfl rfl rfl rfl hl.1 rfl (Nat.le_of_ble_eq_true rfl) dX4_readAim_51 ⟨Nat.le_refl _, Nat.le_refl _⟩ (fun H locs hz hP hD hS => ?_)
      have hz_12 := hz
      refine lv_if_ne (tgt := 59) hx hb dX4_readAim_54 (by decide) (fun hc => ?_) (fun hc => ?_)
      · have hf := o_f hc hf
        refine lv_aload_n hx hb dX4_readAim_59 rfl (lv_at hl 2 rfl) ?_
        refine va_get (D := D) (ci := 5) (v := .ref a1) (C := RX5) (T := TX5) (N := 14) hx hb hts in_X5 hown hK hP 0 rfl rfl 0 (by decide) lk_80 (fun _ h9 => h9) rfl dX4_readAim_60 ?_
        refine lv_iload_n hx hb dX4_readAim_63 rfl (lv_at hl 3 rfl) ?_
        refine lv_iload_n hx hb dX4_readAim_64 rfl (lv_at hl 0 rfl) ?_
        refine lv_aload_n hx hb dX4_readAim_65 rfl (lv_at hl 1 rfl) ?_
        refine va_get (D := D) (ci := 4) (v := .int value_10) (C := RX4) (T := TX4) (N := 10) hx hb hts in_X4 hown hK hP 1 rfl rfl 5 (by decide) lk_120 (fun _ h9 => h9) rfl dX4_readAim_66 ?_
        obtain ⟨aimCount_13, aim_14, land_15, hc, hf⟩ := ob3_some hf
        refine g_VV (As := [.int x2, .int value, .int value_10]) (rest := []) (ws' := (w_X4_readAim kc a0 a1 a2 a3 a4 a5 a6 a7 a8 a9 a10 a11 a12 a13 a14 a15 a16 regions balloons letters loft start seed start2_7 end_ place_8 kind_9 value_10 code_11 loftRead startRead seedRead count turnCount land_15 text aimCount_13 aim_14)) ⟨hx, hb, hml, hown, hts⟩ hN hK hP hD hS hA (c_X7_addAim l D kc N a1 a11 a12 a13 a14 a15 a16 count turnCount aimCount aim land x2 value value_10 aimCount_13 aim_14 land_15 hc) (cwV 3 hts gX4_readAim_X7_addAim rfl rfl rfl (by decide +kernel) ⟨Nat.le_of_ble_eq_true rfl, Nat.le_of_ble_eq_true rfl⟩) [2, 5, 6, 3] [0, 1, 4] [0, 1, 3, 6, 2, 4, 5] (by exact ⟨rfl, rfl, by decide, rfl⟩) 2 7 rfl rfl rfl rfl hl.1 rfl (Nat.le_of_ble_eq_true rfl) dX4_readAim_69 ⟨Nat.le_refl _, Nat.le_refl _⟩ (fun H locs hP hD hS => ?_)
        refine lv_iconst (v := 1) hx hb dX4_readAim_72 (by decide) ?_
        cases hf
        exact kR _ _ _ _ (Or.inr rfl) hP hD hS dX4_readAim_73
      · have hf := o_t hc hf
        refine lv_iconst (v := 0) hx hb dX4_readAim_57 (by decide) ?_
        cases hf
        exact kR _ _ _ _ (Or.inl rfl) hP hD hS dX4_readAim_58
    · have hf := o_f hc hf
      refine lv_aload_n hx hb dX4_readAim_33 rfl (lv_at hl 1 rfl) ?_
      refine lv_iconst (v := 2) hx hb dX4_readAim_34 (by decide) ?_
      obtain ⟨r_16, code_17, hc, hf⟩ := ob2_some hf
      refine g_VZ (As := [.int 2]) (rest := []) (ws' := (w_X4_readAim kc a0 a1 a2 a3 a4 a5 a6 a7 a8 a9 a10 a11 a12 a13 a14 a15 a16 regions balloons letters loft start seed start2 end_ place kind value code_17 loftRead startRead seedRead count turnCount land text aimCount aim)) ⟨hx, hb, hml, hown, hts⟩ hN hK hP hD hS hA (c_X4_fail l D kc N a9 a10 start2 end_ place kind value code_2 loftRead startRead seedRead 2 r_16 code_17 hc) (cwV 1 hts gX4_readAim_X4_fail rfl rfl rfl (by decide +kernel) ⟨Nat.le_of_ble_eq_true rfl, Nat.le_of_ble_eq_true rfl⟩) [1] [0, 2, 3, 4, 5, 6] [0, 6, 1, 2, 3, 4, 5] (by exact ⟨rfl, rfl, by decide, rfl⟩) 1 4 rfl rfl rfl rfl hl.1 rfl (Nat.le_of_ble_eq_true rfl) dX4_readAim_35 ⟨Nat.le_refl _, Nat.le_refl _⟩ (fun H locs hz hP hD hS => ?_)
      have hz_18 := hz
      cases hf
      exact kR _ _ _ _ hz_18 hP hD hS dX4_readAim_38
  · have hf := o_t hc hf
    refine lv_iconst (v := 0) hx hb dX4_readAim_14 (by decide) ?_
    cases hf
    exact kR _ _ _ _ (Or.inl rfl) hP hD hS dX4_readAim_15
abbrev w_X4_readWind (kc : Nat → ClassId) (a0 a1 a2 a3 a4 a5 a6 a7 a8 a9 a10 a11 a12 a13 a14 a15 a16 : Nat) (regions : Int32) (balloons : Int32) (letters : Int32) (loft : Int32) (start : Int32) (seed : Int32) (count : Int32) (turnCount : Int32) (start2 : Int32) (end_ : Int32) (place : Int32) (kind : Int32) (value : Int32) (code : Int32) (loftRead : Int32) (startRead : Int32) (seedRead : Int32) (follow : Nat → Int32) (land : Nat → Int32) (aimCount : Nat → Int32) (text : Nat → Int32) (aim : Nat → Int32) : va_W := [(a0, .inr (5, [.ref a1, .ref a2, .ref a3, .ref a4, .ref a5, .ref a6, .ref a7, .ref a8, .int regions, .int balloons, .int letters, .int loft, .int start, .int seed])), (a1, .inr (7, [.int count, .int turnCount, .ref a9, .ref a10, .ref a11, .ref a12, .ref a13, .ref a14])), (a15, .inr (4, [.int start2, .ref a16, .int end_, .int place, .int kind, .int value, .int code, .int loftRead, .int startRead, .int seedRead])), (a11, .inl (kc 1, 36, .inl follow)), (a12, .inl (kc 1, 54, .inl land)), (a13, .inl (kc 1, 6, .inl aimCount)), (a16, .inl (kc 0, 900, .inl text)), (a14, .inl (kc 1, 48, .inl aim))]
set_option maxHeartbeats 4000000 in
set_option maxRecDepth 100000 in
theorem c_X4_readWind (l : Launch) (D : va_G) (kc : Nat → ClassId) (N : Nat) (a0 a1 a2 a3 a4 a5 a6 a7 a8 a9 a10 a11 a12 a13 a14 a15 a16 : Nat) (regions : Int32) (balloons : Int32) (letters : Int32) (loft : Int32) (start : Int32) (seed : Int32) (count : Int32) (turnCount : Int32) (start2 : Int32) (end_ : Int32) (place : Int32) (kind : Int32) (value : Int32) (code : Int32) (loftRead : Int32) (startRead : Int32) (seedRead : Int32) (follow : Nat → Int32) (land : Nat → Int32) (aimCount : Nat → Int32) (text : Nat → Int32) (aim : Nat → Int32) (r_ : Int32) (count' : Int32) (start2' : Int32) (place' : Int32) (kind' : Int32) (value' : Int32) (code' : Int32) (follow' : Nat → Int32) (land' : Nat → Int32) (aimCount' : Nat → Int32) (aim' : Nat → Int32) (hf : f_X4_readWind N regions count start2 end_ place kind value code follow land aimCount text aim = some (r_, count', start2', place', kind', value', code', follow', land', aimCount', aim')) : MZ l yX4_readWind wsX4_readWind ({ frames := 4, cells := 0, slots := 0, locals := 88 }) D kc [.ref a15, .ref a0] (w_X4_readWind kc a0 a1 a2 a3 a4 a5 a6 a7 a8 a9 a10 a11 a12 a13 a14 a15 a16 regions balloons letters loft start seed count turnCount start2 end_ place kind value code loftRead startRead seedRead follow land aimCount text aim) (w_X4_readWind kc a0 a1 a2 a3 a4 a5 a6 a7 a8 a9 a10 a11 a12 a13 a14 a15 a16 regions balloons letters loft start seed count' turnCount start2' end_ place' kind' value' code' loftRead startRead seedRead follow' land' aimCount' text aim') r_ := by
  refine gM_Z (cc := cX4_readWind) (maxL := 4) (by decide) rfl (Nat.le_of_ble_eq_true rfl) ?_
  intro p e s m below meth c A ls Q hx hb hml hown hts hN hK hP hD hA hl kR
  have hS : va_S A s.heap s.heap [] := va_S.rf
  have hl : lv_has ls 4 [(0, .ref a15), (1, .ref a0)] := hl
  have in_X5 : ∀ w ∈ u_ws RX5 TX5 14, w ∈ wsX4_readWind := by decide +kernel
  have lk_80 := hts (.fieldLink RX4 80 "BalloonMail$Siege" "winds" "LBalloonMail$Winds;") (by decide +kernel)
  have in_X7 : ∀ w ∈ u_ws RX7 TX7 8, w ∈ wsX4_readWind := by decide +kernel
  have lk_127 := hts (.fieldLink RX4 127 "BalloonMail$Winds" "count" "I") (by decide +kernel)
  have in_X4 : ∀ w ∈ u_ws RX4 TX4 10, w ∈ wsX4_readWind := by decide +kernel
  have lk_49 := hts (.fieldLink RX4 49 "BalloonMail$Reader" "kind" "I") (by decide +kernel)
  unfold f_X4_readWind at hf
  refine lv_aload_n hx hb dX4_readWind_0 rfl (lv_at hl 1 rfl) ?_
  refine va_get (D := D) (ci := 5) (v := .ref a1) (C := RX5) (T := TX5) (N := 14) hx hb hts in_X5 hown hK hP 0 rfl rfl 0 (by decide) lk_80 (fun _ h9 => h9) rfl dX4_readWind_1 ?_
  refine va_get (D := D) (ci := 7) (v := .int count) (C := RX7) (T := TX7) (N := 8) hx hb hts in_X7 hown hK hP 1 rfl rfl 0 (by decide) lk_127 (fun _ h9 => h9) rfl dX4_readWind_4 ?_
  refine lv_istore_n (lv' := [(2, .int count), (0, .ref a15), (1, .ref a0)]) hx hb dX4_readWind_7 rfl hl (by decide) rfl (fun ls hl => ?_)
  refine lv_iload_n hx hb dX4_readWind_8 rfl (lv_at hl 0 rfl) ?_
  refine lv_bipush (v := 6) hx hb dX4_readWind_9 (by decide) ?_
  refine lv_icmp_lt (tgt := 20) hx hb dX4_readWind_11 (by decide) (fun hc => ?_) (fun hc => ?_)
  · have hf := o_t hc hf
    refine lv_aload_n hx hb dX4_readWind_20 rfl (lv_at hl 2 rfl) ?_
    refine va_get (D := D) (ci := 5) (v := .ref a1) (C := RX5) (T := TX5) (N := 14) hx hb hts in_X5 hown hK hP 0 rfl rfl 0 (by decide) lk_80 (fun _ h9 => h9) rfl dX4_readWind_21 ?_
    obtain ⟨count_1, follow_2, land_3, aimCount_4, hc, hf⟩ := ob4_some hf
    refine g_VV (As := []) (rest := []) (ws' := (w_X4_readWind kc a0 a1 a2 a3 a4 a5 a6 a7 a8 a9 a10 a11 a12 a13 a14 a15 a16 regions balloons letters loft start seed count_1 turnCount start2 end_ place kind value code loftRead startRead seedRead follow_2 land_3 aimCount_4 text aim)) ⟨hx, hb, hml, hown, hts⟩ hN hK hP hD hS hA (c_X7_add l D kc N a1 a9 a10 a11 a12 a13 a14 count turnCount follow land aimCount count_1 follow_2 land_3 aimCount_4 hc) (cwV 0 hts gX4_readWind_X7_add rfl rfl rfl (by decide +kernel) ⟨Nat.le_of_ble_eq_true rfl, Nat.le_of_ble_eq_true rfl⟩) [1, 3, 4, 5] [0, 2, 6, 7] [0, 4, 1, 5, 6, 7, 2, 3] (by exact ⟨rfl, rfl, by decide, rfl⟩) 1 7 rfl rfl rfl rfl hl.1 rfl (Nat.le_of_ble_eq_true rfl) dX4_readWind_24 ⟨Nat.le_refl _, Nat.le_refl _⟩ (fun H locs hP hD hS => ?_)
    refine lv_iconst (v := 0) hx hb dX4_readWind_27 (by decide) ?_
    refine lv_istore_n (lv' := [(3, .int 0), (2, .int count), (0, .ref a15), (1, .ref a0)]) hx hb dX4_readWind_28 rfl hl (by decide) rfl (fun ls hl => ?_)
    have L29 : ∀ (n : Nat) (y3_29 : Int32) (start2_29 : Int32) (place_29 : Int32) (kind_29 : Int32) (value_29 : Int32) (code_29 : Int32) (land_29 : Nat → Int32) (aimCount_29 : Nat → Int32) (aim_29 : Nat → Int32), f_X4_readWind_29 N regions count end_ text count_1 follow_2 n y3_29 start2_29 place_29 kind_29 value_29 code_29 land_29 aimCount_29 aim_29 = some (r_, count', start2', place', kind', value', code', follow', land', aimCount', aim') → ∀ (H : Heap) (locs : List Loc) (ls : Array Slot), va_P D vwCl (w_X4_readWind kc a0 a1 a2 a3 a4 a5 a6 a7 a8 a9 a10 a11 a12 a13 a14 a15 a16 regions balloons letters loft start seed count_1 turnCount start2_29 end_ place_29 kind_29 value_29 code_29 loftRead startRead seedRead follow_2 land_29 aimCount_29 text aim_29) H → va_D A (w_X4_readWind kc a0 a1 a2 a3 a4 a5 a6 a7 a8 a9 a10 a11 a12 a13 a14 a15 a16 regions balloons letters loft start seed count_1 turnCount start2_29 end_ place_29 kind_29 value_29 code_29 loftRead startRead seedRead follow_2 land_29 aimCount_29 text aim_29) → va_S A s.heap H locs → lv_has ls 4 [(0, .ref a15), (1, .ref a0), (2, .int count), (3, .int y3_29)] → W p l e ({ frames := 4, cells := 0, slots := 0, locals := 88 }) s m (([.ref a15, .ref a0] : List Value).toArray) below meth c H locs 0 0 Q (F0 m 29 ls []) := by
      clear hf
      intro n
      induction n with
      | zero => intro _ _ _ _ _ _ _ _ _ hf; rw [f_X4_readWind_29.eq_1] at hf; cases hf
      | succ n ih =>
        intro y3_29 start2_29 place_29 kind_29 value_29 code_29 land_29 aimCount_29 aim_29 hf H locs ls hP hD hS hl
        rw [f_X4_readWind_29.eq_2] at hf
        refine lv_iload_n hx hb dX4_readWind_29 rfl (lv_at hl 3 rfl) ?_
        refine lv_bipush (v := 8) hx hb dX4_readWind_30 (by decide) ?_
        refine lv_icmp_gt (tgt := 66) hx hb dX4_readWind_32 (by decide) (fun hc => ?_) (fun hc => ?_)
        · have hf := o_t hc hf
          refine lv_aload_n hx hb dX4_readWind_66 rfl (lv_at hl 0 rfl) ?_
          refine lv_iconst (v := 1) hx hb dX4_readWind_67 (by decide) ?_
          obtain ⟨r_5, code_6, hc, hf⟩ := ob2_some hf
          refine g_VZ (As := [.int 1]) (rest := []) (ws' := (w_X4_readWind kc a0 a1 a2 a3 a4 a5 a6 a7 a8 a9 a10 a11 a12 a13 a14 a15 a16 regions balloons letters loft start seed count_1 turnCount start2_29 end_ place_29 kind_29 value_29 code_6 loftRead startRead seedRead follow_2 land_29 aimCount_29 text aim_29)) ⟨hx, hb, hml, hown, hts⟩ hN hK hP hD hS hA (c_X4_fail l D kc N a15 a16 start2_29 end_ place_29 kind_29 value_29 code_29 loftRead startRead seedRead 1 r_5 code_6 hc) (cwV 1 hts gX4_readWind_X4_fail rfl rfl rfl (by decide +kernel) ⟨Nat.le_of_ble_eq_true rfl, Nat.le_of_ble_eq_true rfl⟩) [2] [0, 1, 3, 4, 5, 6, 7] [0, 1, 7, 2, 3, 4, 5, 6] (by exact ⟨rfl, rfl, by decide, rfl⟩) 2 4 rfl rfl rfl rfl hl.1 rfl (Nat.le_of_ble_eq_true rfl) dX4_readWind_68 ⟨Nat.le_refl _, Nat.le_refl _⟩ (fun H locs hz hP hD hS => ?_)
          have hz_7 := hz
          cases hf
          exact kR _ _ _ _ hz_7 hP hD hS dX4_readWind_71
        · have hf := o_f hc hf
          refine lv_aload_n hx hb dX4_readWind_35 rfl (lv_at hl 0 rfl) ?_
          obtain ⟨start2_8, place_9, kind_10, value_11, hc, hf⟩ := ob4_some hf
          refine g_VV (As := []) (rest := []) (ws' := (w_X4_readWind kc a0 a1 a2 a3 a4 a5 a6 a7 a8 a9 a10 a11 a12 a13 a14 a15 a16 regions balloons letters loft start seed count_1 turnCount start2_8 end_ place_9 kind_10 value_11 code_29 loftRead startRead seedRead follow_2 land_29 aimCount_29 text aim_29)) ⟨hx, hb, hml, hown, hts⟩ hN hK hP hD hS hA (c_X4_nextToken l D kc N a15 a16 start2_29 end_ place_29 kind_29 value_29 code_29 loftRead startRead seedRead text start2_8 place_9 kind_10 value_11 hc) (cwV 0 hts gX4_readWind_X4_nextToken rfl rfl rfl (by decide +kernel) ⟨Nat.le_of_ble_eq_true rfl, Nat.le_of_ble_eq_true rfl⟩) [2, 6] [0, 1, 3, 4, 5, 7] [0, 1, 6, 2, 3, 4, 7, 5] (by exact ⟨rfl, rfl, by decide, rfl⟩) 2 4 rfl rfl rfl rfl hl.1 rfl (Nat.le_of_ble_eq_true rfl) dX4_readWind_36 ⟨Nat.le_refl _, Nat.le_refl _⟩ (fun H locs hP hD hS => ?_)
          refine lv_aload_n hx hb dX4_readWind_39 rfl (lv_at hl 0 rfl) ?_
          refine va_get (D := D) (ci := 4) (v := .int kind_10) (C := RX4) (T := TX4) (N := 10) hx hb hts in_X4 hown hK hP 2 rfl rfl 4 (by decide) lk_49 (fun _ h9 => h9) rfl dX4_readWind_40 ?_
          refine lv_iconst (v := 3) hx hb dX4_readWind_43 (by decide) ?_
          refine lv_icmp_ne (tgt := 49) hx hb dX4_readWind_44 (by decide) (fun hc => ?_) (fun hc => ?_)
          · have hf := o_f hc hf
            refine lv_aload_n hx hb dX4_readWind_49 rfl (lv_at hl 0 rfl) ?_
            refine lv_aload_n hx hb dX4_readWind_50 rfl (lv_at hl 1 rfl) ?_
            refine lv_iload_n hx hb dX4_readWind_51 rfl (lv_at hl 2 rfl) ?_
            obtain ⟨r_12, start2_13, place_14, kind_15, value_16, code_17, land_18, aimCount_19, aim_20, hc, hf⟩ := ob9_some hf
            refine g_VZ (As := [.ref a0, .int count]) (rest := []) (ws' := (w_X4_readWind kc a0 a1 a2 a3 a4 a5 a6 a7 a8 a9 a10 a11 a12 a13 a14 a15 a16 regions balloons letters loft start seed count_1 turnCount start2_13 end_ place_14 kind_15 value_16 code_17 loftRead startRead seedRead follow_2 land_18 aimCount_19 text aim_20)) ⟨hx, hb, hml, hown, hts⟩ hN hK hP hD hS hA (c_X4_readAim l D kc N a0 a1 a2 a3 a4 a5 a6 a7 a8 a15 a16 a9 a10 a11 a12 a13 a14 regions balloons letters loft start seed start2_8 end_ place_9 kind_10 value_11 code_29 loftRead startRead seedRead count_1 turnCount land_29 text aimCount_29 aim_29 count r_12 start2_13 place_14 kind_15 value_16 code_17 land_18 aimCount_19 aim_20 hc) (cwV 2 hts gX4_readWind_X4_readAim rfl rfl rfl (by decide +kernel) ⟨Nat.le_of_ble_eq_true rfl, Nat.le_of_ble_eq_true rfl⟩) [0, 2, 1, 4, 6, 5, 7] [3] [1, 3, 2, 0, 4, 6, 5, 7] (by exact ⟨rfl, rfl, by decide, rfl⟩) 2 4 rfl rfl rfl rfl hl.1 rfl (Nat.le_of_ble_eq_true rfl) dX4_readWind_52 ⟨Nat.le_refl _, Nat.le_refl _⟩ (fun H locs hz hP hD hS => ?_)
            have hz_21 := hz
            refine lv_if_ne (tgt := 60) hx hb dX4_readWind_55 (by decide) (fun hc => ?_) (fun hc => ?_)
            · have hf := o_f hc hf
              refine lv_iinc (v := (y3_29 + 1)) (lv' := [(3, .int (y3_29 + 1)), (0, .ref a15), (1, .ref a0), (2, .int count)]) hx hb dX4_readWind_60 hl (k := 3) rfl (by rfl) (by decide) rfl (fun ls hl => ?_)
              refine lv_goto (tgt := 29) hx hb dX4_readWind_63 (by decide) ?_
              exact ih _ _ _ _ _ _ _ _ _ hf _ _ _ hP hD hS (lv_sub hl [1, 2, 3, 0] rfl)
            · have hf := o_t hc hf
              refine lv_iconst (v := 0) hx hb dX4_readWind_58 (by decide) ?_
              cases hf
              exact kR _ _ _ _ (Or.inl rfl) hP hD hS dX4_readWind_59
          · have hf := o_t hc hf
            refine lv_iconst (v := 1) hx hb dX4_readWind_47 (by decide) ?_
            cases hf
            exact kR _ _ _ _ (Or.inr rfl) hP hD hS dX4_readWind_48
    exact L29 N _ _ _ _ _ _ _ _ _ hf _ _ _ hP hD hS (lv_sub hl [2, 3, 1, 0] rfl)
  · have hf := o_f hc hf
    refine lv_aload_n hx hb dX4_readWind_14 rfl (lv_at hl 1 rfl) ?_
    refine lv_iconst (v := 4) hx hb dX4_readWind_15 (by decide) ?_
    obtain ⟨r_22, code_23, hc, hf⟩ := ob2_some hf
    refine g_VZ (As := [.int 4]) (rest := []) (ws' := (w_X4_readWind kc a0 a1 a2 a3 a4 a5 a6 a7 a8 a9 a10 a11 a12 a13 a14 a15 a16 regions balloons letters loft start seed count turnCount start2 end_ place kind value code_23 loftRead startRead seedRead follow land aimCount text aim)) ⟨hx, hb, hml, hown, hts⟩ hN hK hP hD hS hA (c_X4_fail l D kc N a15 a16 start2 end_ place kind value code loftRead startRead seedRead 4 r_22 code_23 hc) (cwV 1 hts gX4_readWind_X4_fail rfl rfl rfl (by decide +kernel) ⟨Nat.le_of_ble_eq_true rfl, Nat.le_of_ble_eq_true rfl⟩) [2] [0, 1, 3, 4, 5, 6, 7] [0, 1, 7, 2, 3, 4, 5, 6] (by exact ⟨rfl, rfl, by decide, rfl⟩) 2 4 rfl rfl rfl rfl hl.1 rfl (Nat.le_of_ble_eq_true rfl) dX4_readWind_16 ⟨Nat.le_refl _, Nat.le_refl _⟩ (fun H locs hz hP hD hS => ?_)
    have hz_24 := hz
    cases hf
    exact kR _ _ _ _ hz_24 hP hD hS dX4_readWind_19
abbrev w_X4_readTurn (kc : Nat → ClassId) (a0 a1 a2 a3 a4 a5 a6 a7 a8 : Nat) (count : Int32) (turnCount : Int32) (start : Int32) (end_ : Int32) (place : Int32) (kind : Int32) (value : Int32) (code : Int32) (loftRead : Int32) (startRead : Int32) (seedRead : Int32) (text : Nat → Int32) (follow : Nat → Int32) (turnFrom : Nat → Int32) (turnTo : Nat → Int32) : va_W := [(a0, .inr (7, [.int count, .int turnCount, .ref a1, .ref a2, .ref a3, .ref a4, .ref a5, .ref a6])), (a7, .inr (4, [.int start, .ref a8, .int end_, .int place, .int kind, .int value, .int code, .int loftRead, .int startRead, .int seedRead])), (a8, .inl (kc 0, 900, .inl text)), (a3, .inl (kc 1, 36, .inl follow)), (a1, .inl (kc 1, 30, .inl turnFrom)), (a2, .inl (kc 1, 30, .inl turnTo))]
set_option maxHeartbeats 4000000 in
set_option maxRecDepth 100000 in
theorem c_X4_readTurn (l : Launch) (D : va_G) (kc : Nat → ClassId) (N : Nat) (a0 a1 a2 a3 a4 a5 a6 a7 a8 : Nat) (count : Int32) (turnCount : Int32) (start : Int32) (end_ : Int32) (place : Int32) (kind : Int32) (value : Int32) (code : Int32) (loftRead : Int32) (startRead : Int32) (seedRead : Int32) (text : Nat → Int32) (follow : Nat → Int32) (turnFrom : Nat → Int32) (turnTo : Nat → Int32) (r_ : Int32) (turnCount' : Int32) (start' : Int32) (place' : Int32) (kind' : Int32) (value' : Int32) (code' : Int32) (follow' : Nat → Int32) (turnFrom' : Nat → Int32) (turnTo' : Nat → Int32) (hf : f_X4_readTurn N count turnCount start end_ place kind value code text follow turnFrom turnTo = some (r_, turnCount', start', place', kind', value', code', follow', turnFrom', turnTo')) : MZ l yX4_readTurn wsX4_readTurn ({ frames := 3, cells := 0, slots := 0, locals := 65 }) D kc [.ref a7, .ref a0] (w_X4_readTurn kc a0 a1 a2 a3 a4 a5 a6 a7 a8 count turnCount start end_ place kind value code loftRead startRead seedRead text follow turnFrom turnTo) (w_X4_readTurn kc a0 a1 a2 a3 a4 a5 a6 a7 a8 count turnCount' start' end_ place' kind' value' code' loftRead startRead seedRead text follow' turnFrom' turnTo') r_ := by
  refine gM_Z (cc := cX4_readTurn) (maxL := 4) (by decide) rfl (Nat.le_of_ble_eq_true rfl) ?_
  intro p e s m below meth c A ls Q hx hb hml hown hts hN hK hP hD hA hl kR
  have hS : va_S A s.heap s.heap [] := va_S.rf
  have hl : lv_has ls 4 [(0, .ref a7), (1, .ref a0)] := hl
  have in_X7 : ∀ w ∈ u_ws RX7 TX7 8, w ∈ wsX4_readTurn := by decide +kernel
  have lk_148 := hts (.fieldLink RX4 148 "BalloonMail$Winds" "turnCount" "I") (by decide +kernel)
  have lk_127 := hts (.fieldLink RX4 127 "BalloonMail$Winds" "count" "I") (by decide +kernel)
  have in_X4 : ∀ w ∈ u_ws RX4 TX4 10, w ∈ wsX4_readTurn := by decide +kernel
  have lk_120 := hts (.fieldLink RX4 120 "BalloonMail$Reader" "value" "I") (by decide +kernel)
  unfold f_X4_readTurn at hf
  refine lv_aload_n hx hb dX4_readTurn_0 rfl (lv_at hl 1 rfl) ?_
  refine va_get (D := D) (ci := 7) (v := .int turnCount) (C := RX7) (T := TX7) (N := 8) hx hb hts in_X7 hown hK hP 0 rfl rfl 1 (by decide) lk_148 (fun _ h9 => h9) rfl dX4_readTurn_1 ?_
  refine lv_bipush (v := 30) hx hb dX4_readTurn_4 (by decide) ?_
  refine lv_icmp_lt (tgt := 15) hx hb dX4_readTurn_6 (by decide) (fun hc => ?_) (fun hc => ?_)
  · have hf := o_t hc hf
    refine lv_aload_n hx hb dX4_readTurn_15 rfl (lv_at hl 0 rfl) ?_
    refine lv_iconst (v := 0) hx hb dX4_readTurn_16 (by decide) ?_
    refine lv_aload_n hx hb dX4_readTurn_17 rfl (lv_at hl 1 rfl) ?_
    refine va_get (D := D) (ci := 7) (v := .int count) (C := RX7) (T := TX7) (N := 8) hx hb hts in_X7 hown hK hP 0 rfl rfl 0 (by decide) lk_127 (fun _ h9 => h9) rfl dX4_readTurn_18 ?_
    refine lv_iconst (v := 1) hx hb dX4_readTurn_21 (by decide) ?_
    refine lv_isub hx hb dX4_readTurn_22 ?_
    obtain ⟨r_1, start_2, place_3, kind_4, value_5, code_6, hc, hf⟩ := ob6_some hf
    refine g_VZ (As := [.int 0, .int (count - 1)]) (rest := []) (ws' := (w_X4_readTurn kc a0 a1 a2 a3 a4 a5 a6 a7 a8 count turnCount start_2 end_ place_3 kind_4 value_5 code_6 loftRead startRead seedRead text follow turnFrom turnTo)) ⟨hx, hb, hml, hown, hts⟩ hN hK hP hD hS hA (c_X4_readNumber l D kc N a7 a8 start end_ place kind value code loftRead startRead seedRead text 0 (count - 1) r_1 start_2 place_3 kind_4 value_5 code_6 hc) (cwV 2 hts gX4_readTurn_X4_readNumber rfl rfl rfl (by decide +kernel) ⟨Nat.le_of_ble_eq_true rfl, Nat.le_of_ble_eq_true rfl⟩) [1, 2] [0, 3, 4, 5] [0, 4, 5, 1, 2, 3] (by exact ⟨rfl, rfl, by decide, rfl⟩) 1 4 rfl rfl rfl rfl hl.1 rfl (Nat.le_of_ble_eq_true rfl) dX4_readTurn_23 ⟨Nat.le_refl _, Nat.le_refl _⟩ (fun H locs hz hP hD hS => ?_)
    have hz_7 := hz
    refine lv_if_ne (tgt := 31) hx hb dX4_readTurn_26 (by decide) (fun hc => ?_) (fun hc => ?_)
    · have hf := o_f hc hf
      refine lv_aload_n hx hb dX4_readTurn_31 rfl (lv_at hl 0 rfl) ?_
      refine va_get (D := D) (ci := 4) (v := .int value_5) (C := RX4) (T := TX4) (N := 10) hx hb hts in_X4 hown hK hP 1 rfl rfl 5 (by decide) lk_120 (fun _ h9 => h9) rfl dX4_readTurn_32 ?_
      refine lv_istore_n (lv' := [(2, .int value_5), (0, .ref a7), (1, .ref a0)]) hx hb dX4_readTurn_35 rfl hl (by decide) rfl (fun ls hl => ?_)
      refine lv_aload_n hx hb dX4_readTurn_36 rfl (lv_at hl 1 rfl) ?_
      refine lv_iconst (v := 0) hx hb dX4_readTurn_37 (by decide) ?_
      refine lv_aload_n hx hb dX4_readTurn_38 rfl (lv_at hl 2 rfl) ?_
      refine va_get (D := D) (ci := 7) (v := .int count) (C := RX7) (T := TX7) (N := 8) hx hb hts in_X7 hown hK hP 0 rfl rfl 0 (by decide) lk_127 (fun _ h9 => h9) rfl dX4_readTurn_39 ?_
      refine lv_iconst (v := 1) hx hb dX4_readTurn_42 (by decide) ?_
      refine lv_isub hx hb dX4_readTurn_43 ?_
      obtain ⟨r_8, start_9, place_10, kind_11, value_12, code_13, hc, hf⟩ := ob6_some hf
      refine g_VZ (As := [.int 0, .int (count - 1)]) (rest := []) (ws' := (w_X4_readTurn kc a0 a1 a2 a3 a4 a5 a6 a7 a8 count turnCount start_9 end_ place_10 kind_11 value_12 code_13 loftRead startRead seedRead text follow turnFrom turnTo)) ⟨hx, hb, hml, hown, hts⟩ hN hK hP hD hS hA (c_X4_readNumber l D kc N a7 a8 start_2 end_ place_3 kind_4 value_5 code_6 loftRead startRead seedRead text 0 (count - 1) r_8 start_9 place_10 kind_11 value_12 code_13 hc) (cwV 2 hts gX4_readTurn_X4_readNumber rfl rfl rfl (by decide +kernel) ⟨Nat.le_of_ble_eq_true rfl, Nat.le_of_ble_eq_true rfl⟩) [1, 2] [0, 3, 4, 5] [0, 4, 5, 1, 2, 3] (by exact ⟨rfl, rfl, by decide, rfl⟩) 1 4 rfl rfl rfl rfl hl.1 rfl (Nat.le_of_ble_eq_true rfl) dX4_readTurn_44 ⟨Nat.le_refl _, Nat.le_refl _⟩ (fun H locs hz hP hD hS => ?_)
      have hz_14 := hz
      refine lv_if_ne (tgt := 52) hx hb dX4_readTurn_47 (by decide) (fun hc => ?_) (fun hc => ?_)
      · have hf := o_f hc hf
        refine lv_aload_n hx hb dX4_readTurn_52 rfl (lv_at hl 1 rfl) ?_
        refine va_get (D := D) (ci := 4) (v := .int value_12) (C := RX4) (T := TX4) (N := 10) hx hb hts in_X4 hown hK hP 1 rfl rfl 5 (by decide) lk_120 (fun _ h9 => h9) rfl dX4_readTurn_53 ?_
        refine lv_istore_n (lv' := [(3, .int value_12), (2, .int value_5), (0, .ref a7), (1, .ref a0)]) hx hb dX4_readTurn_56 rfl hl (by decide) rfl (fun ls hl => ?_)
        refine lv_iload_n hx hb dX4_readTurn_57 rfl (lv_at hl 1 rfl) ?_
        refine lv_iload_n hx hb dX4_readTurn_58 rfl (lv_at hl 0 rfl) ?_
        refine lv_icmp_eq (tgt := 71) hx hb dX4_readTurn_59 (by decide) (fun hc => ?_) (fun hc => ?_)
        · have hf := o_t hc hf
          refine lv_aload_n hx hb dX4_readTurn_71 rfl (lv_at hl 2 rfl) ?_
          refine lv_iconst (v := 2) hx hb dX4_readTurn_72 (by decide) ?_
          obtain ⟨r_15, code_16, hc, hf⟩ := ob2_some hf
          refine g_VZ (As := [.int 2]) (rest := []) (ws' := (w_X4_readTurn kc a0 a1 a2 a3 a4 a5 a6 a7 a8 count turnCount start_9 end_ place_10 kind_11 value_12 code_16 loftRead startRead seedRead text follow turnFrom turnTo)) ⟨hx, hb, hml, hown, hts⟩ hN hK hP hD hS hA (c_X4_fail l D kc N a7 a8 start_9 end_ place_10 kind_11 value_12 code_13 loftRead startRead seedRead 2 r_15 code_16 hc) (cwV 1 hts gX4_readTurn_X4_fail rfl rfl rfl (by decide +kernel) ⟨Nat.le_of_ble_eq_true rfl, Nat.le_of_ble_eq_true rfl⟩) [1] [0, 2, 3, 4, 5] [0, 5, 1, 2, 3, 4] (by exact ⟨rfl, rfl, by decide, rfl⟩) 1 4 rfl rfl rfl rfl hl.1 rfl (Nat.le_of_ble_eq_true rfl) dX4_readTurn_73 ⟨Nat.le_refl _, Nat.le_refl _⟩ (fun H locs hz hP hD hS => ?_)
          have hz_17 := hz
          cases hf
          exact kR _ _ _ _ hz_17 hP hD hS dX4_readTurn_76
        · have hf := o_f hc hf
          refine lv_aload_n hx hb dX4_readTurn_62 rfl (lv_at hl 3 rfl) ?_
          refine lv_iload_n hx hb dX4_readTurn_63 rfl (lv_at hl 1 rfl) ?_
          refine lv_iload_n hx hb dX4_readTurn_64 rfl (lv_at hl 0 rfl) ?_
          obtain ⟨r_18, hc, hf⟩ := ob1_some hf
          refine g_VI (As := [.int value_5, .int value_12]) (rest := []) (ws' := (w_X4_readTurn kc a0 a1 a2 a3 a4 a5 a6 a7 a8 count turnCount start_9 end_ place_10 kind_11 value_12 code_13 loftRead startRead seedRead text follow turnFrom turnTo)) ⟨hx, hb, hml, hown, hts⟩ hN hK hP hD hS hA (c_X7_followTenths l D kc N a0 a1 a2 a3 a4 a5 a6 count turnCount follow value_5 value_12 r_18 hc) (cwV 2 hts gX4_readTurn_X7_followTenths rfl rfl rfl (by decide +kernel) ⟨Nat.le_of_ble_eq_true rfl, Nat.le_of_ble_eq_true rfl⟩) [0, 3] [1, 2, 4, 5] [4, 0, 1, 5, 2, 3] (by exact ⟨rfl, rfl, by decide, rfl⟩) 0 7 rfl rfl rfl rfl hl.1 rfl (Nat.le_of_ble_eq_true rfl) dX4_readTurn_65 ⟨Nat.le_refl _, Nat.le_refl _⟩ (fun H locs hP hD hS => ?_)
          refine lv_if_le (tgt := 77) hx hb dX4_readTurn_68 (by decide) (fun hc => ?_) (fun hc => ?_)
          · have hf := o_t hc hf
            refine lv_aload_n hx hb dX4_readTurn_77 rfl (lv_at hl 2 rfl) ?_
            refine lv_iconst (v := 1) hx hb dX4_readTurn_78 (by decide) ?_
            refine lv_aload_n hx hb dX4_readTurn_79 rfl (lv_at hl 3 rfl) ?_
            refine lv_iload_n hx hb dX4_readTurn_80 rfl (lv_at hl 1 rfl) ?_
            refine lv_iload_n hx hb dX4_readTurn_81 rfl (lv_at hl 1 rfl) ?_
            obtain ⟨r_19, hc, hf⟩ := ob1_some hf
            refine g_VI (As := [.int value_5, .int value_5]) (rest := [.int 1, .ref a7]) (ws' := (w_X4_readTurn kc a0 a1 a2 a3 a4 a5 a6 a7 a8 count turnCount start_9 end_ place_10 kind_11 value_12 code_13 loftRead startRead seedRead text follow turnFrom turnTo)) ⟨hx, hb, hml, hown, hts⟩ hN hK hP hD hS hA (c_X7_followTenths l D kc N a0 a1 a2 a3 a4 a5 a6 count turnCount follow value_5 value_5 r_19 hc) (cwV 2 hts gX4_readTurn_X7_followTenths rfl rfl rfl (by decide +kernel) ⟨Nat.le_of_ble_eq_true rfl, Nat.le_of_ble_eq_true rfl⟩) [0, 3] [1, 2, 4, 5] [4, 0, 1, 5, 2, 3] (by exact ⟨rfl, rfl, by decide, rfl⟩) 0 7 rfl rfl rfl rfl hl.1 rfl (Nat.le_of_ble_eq_true rfl) dX4_readTurn_82 ⟨Nat.le_refl _, Nat.le_refl _⟩ (fun H locs hP hD hS => ?_)
            obtain ⟨r_20, start_21, place_22, kind_23, value_24, code_25, hc, hf⟩ := ob6_some hf
            refine g_VZ (As := [.int 1, .int r_19]) (rest := []) (ws' := (w_X4_readTurn kc a0 a1 a2 a3 a4 a5 a6 a7 a8 count turnCount start_21 end_ place_22 kind_23 value_24 code_25 loftRead startRead seedRead text follow turnFrom turnTo)) ⟨hx, hb, hml, hown, hts⟩ hN hK hP hD hS hA (c_X4_readNumber l D kc N a7 a8 start_9 end_ place_10 kind_11 value_12 code_13 loftRead startRead seedRead text 1 r_19 r_20 start_21 place_22 kind_23 value_24 code_25 hc) (cwV 2 hts gX4_readTurn_X4_readNumber rfl rfl rfl (by decide +kernel) ⟨Nat.le_of_ble_eq_true rfl, Nat.le_of_ble_eq_true rfl⟩) [1, 2] [0, 3, 4, 5] [0, 4, 5, 1, 2, 3] (by exact ⟨rfl, rfl, by decide, rfl⟩) 1 4 rfl rfl rfl rfl hl.1 rfl (Nat.le_of_ble_eq_true rfl) dX4_readTurn_85 ⟨Nat.le_refl _, Nat.le_refl _⟩ (fun H locs hz hP hD hS => ?_)
            have hz_26 := hz
            refine lv_if_ne (tgt := 93) hx hb dX4_readTurn_88 (by decide) (fun hc => ?_) (fun hc => ?_)
            · have hf := o_f hc hf
              refine lv_aload_n hx hb dX4_readTurn_93 rfl (lv_at hl 3 rfl) ?_
              refine lv_iload_n hx hb dX4_readTurn_94 rfl (lv_at hl 1 rfl) ?_
              refine lv_iload_n hx hb dX4_readTurn_95 rfl (lv_at hl 0 rfl) ?_
              refine lv_aload_n hx hb dX4_readTurn_96 rfl (lv_at hl 2 rfl) ?_
              refine va_get (D := D) (ci := 4) (v := .int value_24) (C := RX4) (T := TX4) (N := 10) hx hb hts in_X4 hown hK hP 1 rfl rfl 5 (by decide) lk_120 (fun _ h9 => h9) rfl dX4_readTurn_97 ?_
              obtain ⟨turnCount_27, turnFrom_28, turnTo_29, follow_30, hc, hf⟩ := ob4_some hf
              refine g_VV (As := [.int value_5, .int value_12, .int value_24]) (rest := []) (ws' := (w_X4_readTurn kc a0 a1 a2 a3 a4 a5 a6 a7 a8 count turnCount_27 start_21 end_ place_22 kind_23 value_24 code_25 loftRead startRead seedRead text follow_30 turnFrom_28 turnTo_29)) ⟨hx, hb, hml, hown, hts⟩ hN hK hP hD hS hA (c_X7_addTurn l D kc N a0 a1 a2 a3 a4 a5 a6 count turnCount turnFrom turnTo follow value_5 value_12 value_24 turnCount_27 turnFrom_28 turnTo_29 follow_30 hc) (cwV 3 hts gX4_readTurn_X7_addTurn rfl rfl rfl (by decide +kernel) ⟨Nat.le_of_ble_eq_true rfl, Nat.le_of_ble_eq_true rfl⟩) [0, 4, 5, 3] [1, 2] [2, 0, 1, 5, 3, 4] (by exact ⟨rfl, rfl, by decide, rfl⟩) 0 7 rfl rfl rfl rfl hl.1 rfl (Nat.le_of_ble_eq_true rfl) dX4_readTurn_100 ⟨Nat.le_refl _, Nat.le_refl _⟩ (fun H locs hP hD hS => ?_)
              refine lv_iconst (v := 1) hx hb dX4_readTurn_103 (by decide) ?_
              cases hf
              exact kR _ _ _ _ (Or.inr rfl) hP hD hS dX4_readTurn_104
            · have hf := o_t hc hf
              refine lv_iconst (v := 0) hx hb dX4_readTurn_91 (by decide) ?_
              cases hf
              exact kR _ _ _ _ (Or.inl rfl) hP hD hS dX4_readTurn_92
          · have hf := o_f hc hf
            refine lv_aload_n hx hb dX4_readTurn_71 rfl (lv_at hl 2 rfl) ?_
            refine lv_iconst (v := 2) hx hb dX4_readTurn_72 (by decide) ?_
            obtain ⟨r_31, code_32, hc, hf⟩ := ob2_some hf
            refine g_VZ (As := [.int 2]) (rest := []) (ws' := (w_X4_readTurn kc a0 a1 a2 a3 a4 a5 a6 a7 a8 count turnCount start_9 end_ place_10 kind_11 value_12 code_32 loftRead startRead seedRead text follow turnFrom turnTo)) ⟨hx, hb, hml, hown, hts⟩ hN hK hP hD hS hA (c_X4_fail l D kc N a7 a8 start_9 end_ place_10 kind_11 value_12 code_13 loftRead startRead seedRead 2 r_31 code_32 hc) (cwV 1 hts gX4_readTurn_X4_fail rfl rfl rfl (by decide +kernel) ⟨Nat.le_of_ble_eq_true rfl, Nat.le_of_ble_eq_true rfl⟩) [1] [0, 2, 3, 4, 5] [0, 5, 1, 2, 3, 4] (by exact ⟨rfl, rfl, by decide, rfl⟩) 1 4 rfl rfl rfl rfl hl.1 rfl (Nat.le_of_ble_eq_true rfl) dX4_readTurn_73 ⟨Nat.le_refl _, Nat.le_refl _⟩ (fun H locs hz hP hD hS => ?_)
            have hz_33 := hz
            cases hf
            exact kR _ _ _ _ hz_33 hP hD hS dX4_readTurn_76
      · have hf := o_t hc hf
        refine lv_iconst (v := 0) hx hb dX4_readTurn_50 (by decide) ?_
        cases hf
        exact kR _ _ _ _ (Or.inl rfl) hP hD hS dX4_readTurn_51
    · have hf := o_t hc hf
      refine lv_iconst (v := 0) hx hb dX4_readTurn_29 (by decide) ?_
      cases hf
      exact kR _ _ _ _ (Or.inl rfl) hP hD hS dX4_readTurn_30
  · have hf := o_f hc hf
    refine lv_aload_n hx hb dX4_readTurn_9 rfl (lv_at hl 0 rfl) ?_
    refine lv_iconst (v := 4) hx hb dX4_readTurn_10 (by decide) ?_
    obtain ⟨r_34, code_35, hc, hf⟩ := ob2_some hf
    refine g_VZ (As := [.int 4]) (rest := []) (ws' := (w_X4_readTurn kc a0 a1 a2 a3 a4 a5 a6 a7 a8 count turnCount start end_ place kind value code_35 loftRead startRead seedRead text follow turnFrom turnTo)) ⟨hx, hb, hml, hown, hts⟩ hN hK hP hD hS hA (c_X4_fail l D kc N a7 a8 start end_ place kind value code loftRead startRead seedRead 4 r_34 code_35 hc) (cwV 1 hts gX4_readTurn_X4_fail rfl rfl rfl (by decide +kernel) ⟨Nat.le_of_ble_eq_true rfl, Nat.le_of_ble_eq_true rfl⟩) [1] [0, 2, 3, 4, 5] [0, 5, 1, 2, 3, 4] (by exact ⟨rfl, rfl, by decide, rfl⟩) 1 4 rfl rfl rfl rfl hl.1 rfl (Nat.le_of_ble_eq_true rfl) dX4_readTurn_11 ⟨Nat.le_refl _, Nat.le_refl _⟩ (fun H locs hz hP hD hS => ?_)
    have hz_36 := hz
    cases hf
    exact kR _ _ _ _ hz_36 hP hD hS dX4_readTurn_14
abbrev w_X4_readBalloon (kc : Nat → ClassId) (a0 a1 a2 a3 a4 a5 a6 a7 a8 a9 a10 : Nat) (regions : Int32) (balloons : Int32) (letters : Int32) (loft : Int32) (start : Int32) (seed : Int32) (start2 : Int32) (end_ : Int32) (place : Int32) (kind : Int32) (value : Int32) (code : Int32) (loftRead : Int32) (startRead : Int32) (seedRead : Int32) (text : Nat → Int32) (capacity : Nat → Int32) (pigeons : Nat → Int32) : va_W := [(a0, .inr (5, [.ref a1, .ref a2, .ref a3, .ref a4, .ref a5, .ref a6, .ref a7, .ref a8, .int regions, .int balloons, .int letters, .int loft, .int start, .int seed])), (a9, .inr (4, [.int start2, .ref a10, .int end_, .int place, .int kind, .int value, .int code, .int loftRead, .int startRead, .int seedRead])), (a10, .inl (kc 0, 900, .inl text)), (a5, .inl (kc 1, 10, .inl capacity)), (a6, .inl (kc 1, 10, .inl pigeons))]
set_option maxHeartbeats 4000000 in
set_option maxRecDepth 100000 in
theorem c_X4_readBalloon (l : Launch) (D : va_G) (kc : Nat → ClassId) (N : Nat) (a0 a1 a2 a3 a4 a5 a6 a7 a8 a9 a10 : Nat) (regions : Int32) (balloons : Int32) (letters : Int32) (loft : Int32) (start : Int32) (seed : Int32) (start2 : Int32) (end_ : Int32) (place : Int32) (kind : Int32) (value : Int32) (code : Int32) (loftRead : Int32) (startRead : Int32) (seedRead : Int32) (text : Nat → Int32) (capacity : Nat → Int32) (pigeons : Nat → Int32) (r_ : Int32) (balloons' : Int32) (start2' : Int32) (place' : Int32) (kind' : Int32) (value' : Int32) (code' : Int32) (capacity' : Nat → Int32) (pigeons' : Nat → Int32) (hf : f_X4_readBalloon N balloons start2 end_ place kind value code text capacity pigeons = some (r_, balloons', start2', place', kind', value', code', capacity', pigeons')) : MZ l yX4_readBalloon wsX4_readBalloon ({ frames := 3, cells := 0, slots := 0, locals := 65 }) D kc [.ref a9, .ref a0] (w_X4_readBalloon kc a0 a1 a2 a3 a4 a5 a6 a7 a8 a9 a10 regions balloons letters loft start seed start2 end_ place kind value code loftRead startRead seedRead text capacity pigeons) (w_X4_readBalloon kc a0 a1 a2 a3 a4 a5 a6 a7 a8 a9 a10 regions balloons' letters loft start seed start2' end_ place' kind' value' code' loftRead startRead seedRead text capacity' pigeons') r_ := by
  refine gM_Z (cc := cX4_readBalloon) (maxL := 3) (by decide) rfl (Nat.le_of_ble_eq_true rfl) ?_
  intro p e s m below meth c A ls Q hx hb hml hown hts hN hK hP hD hA hl kR
  have hS : va_S A s.heap s.heap [] := va_S.rf
  have hl : lv_has ls 3 [(0, .ref a9), (1, .ref a0)] := hl
  have in_X5 : ∀ w ∈ u_ws RX5 TX5 14, w ∈ wsX4_readBalloon := by decide +kernel
  have lk_157 := hts (.fieldLink RX4 157 "BalloonMail$Siege" "balloons" "I") (by decide +kernel)
  have in_X4 : ∀ w ∈ u_ws RX4 TX4 10, w ∈ wsX4_readBalloon := by decide +kernel
  have lk_120 := hts (.fieldLink RX4 120 "BalloonMail$Reader" "value" "I") (by decide +kernel)
  unfold f_X4_readBalloon at hf
  refine lv_aload_n hx hb dX4_readBalloon_0 rfl (lv_at hl 1 rfl) ?_
  refine va_get (D := D) (ci := 5) (v := .int balloons) (C := RX5) (T := TX5) (N := 14) hx hb hts in_X5 hown hK hP 0 rfl rfl 9 (by decide) lk_157 (fun _ h9 => h9) rfl dX4_readBalloon_1 ?_
  refine lv_bipush (v := 10) hx hb dX4_readBalloon_4 (by decide) ?_
  refine lv_icmp_lt (tgt := 15) hx hb dX4_readBalloon_6 (by decide) (fun hc => ?_) (fun hc => ?_)
  · have hf := o_t hc hf
    refine lv_aload_n hx hb dX4_readBalloon_15 rfl (lv_at hl 0 rfl) ?_
    refine lv_iconst (v := 1) hx hb dX4_readBalloon_16 (by decide) ?_
    refine lv_sipush (v := 999) hx hb dX4_readBalloon_17 (by decide) ?_
    obtain ⟨r_1, start2_2, place_3, kind_4, value_5, code_6, hc, hf⟩ := ob6_some hf
    refine g_VZ (As := [.int 1, .int 999]) (rest := []) (ws' := (w_X4_readBalloon kc a0 a1 a2 a3 a4 a5 a6 a7 a8 a9 a10 regions balloons letters loft start seed start2_2 end_ place_3 kind_4 value_5 code_6 loftRead startRead seedRead text capacity pigeons)) ⟨hx, hb, hml, hown, hts⟩ hN hK hP hD hS hA (c_X4_readNumber l D kc N a9 a10 start2 end_ place kind value code loftRead startRead seedRead text 1 999 r_1 start2_2 place_3 kind_4 value_5 code_6 hc) (cwV 2 hts gX4_readBalloon_X4_readNumber rfl rfl rfl (by decide +kernel) ⟨Nat.le_of_ble_eq_true rfl, Nat.le_of_ble_eq_true rfl⟩) [1, 2] [0, 3, 4] [0, 3, 4, 1, 2] (by exact ⟨rfl, rfl, by decide, rfl⟩) 1 4 rfl rfl rfl rfl hl.1 rfl (Nat.le_of_ble_eq_true rfl) dX4_readBalloon_20 ⟨Nat.le_refl _, Nat.le_refl _⟩ (fun H locs hz hP hD hS => ?_)
    have hz_7 := hz
    refine lv_if_ne (tgt := 28) hx hb dX4_readBalloon_23 (by decide) (fun hc => ?_) (fun hc => ?_)
    · have hf := o_f hc hf
      refine lv_aload_n hx hb dX4_readBalloon_28 rfl (lv_at hl 0 rfl) ?_
      refine va_get (D := D) (ci := 4) (v := .int value_5) (C := RX4) (T := TX4) (N := 10) hx hb hts in_X4 hown hK hP 1 rfl rfl 5 (by decide) lk_120 (fun _ h9 => h9) rfl dX4_readBalloon_29 ?_
      refine lv_istore_n (lv' := [(2, .int value_5), (0, .ref a9), (1, .ref a0)]) hx hb dX4_readBalloon_32 rfl hl (by decide) rfl (fun ls hl => ?_)
      refine lv_aload_n hx hb dX4_readBalloon_33 rfl (lv_at hl 1 rfl) ?_
      refine lv_iconst (v := 0) hx hb dX4_readBalloon_34 (by decide) ?_
      refine lv_iconst (v := 4) hx hb dX4_readBalloon_35 (by decide) ?_
      obtain ⟨r_8, start2_9, place_10, kind_11, value_12, code_13, hc, hf⟩ := ob6_some hf
      refine g_VZ (As := [.int 0, .int 4]) (rest := []) (ws' := (w_X4_readBalloon kc a0 a1 a2 a3 a4 a5 a6 a7 a8 a9 a10 regions balloons letters loft start seed start2_9 end_ place_10 kind_11 value_12 code_13 loftRead startRead seedRead text capacity pigeons)) ⟨hx, hb, hml, hown, hts⟩ hN hK hP hD hS hA (c_X4_readNumber l D kc N a9 a10 start2_2 end_ place_3 kind_4 value_5 code_6 loftRead startRead seedRead text 0 4 r_8 start2_9 place_10 kind_11 value_12 code_13 hc) (cwV 2 hts gX4_readBalloon_X4_readNumber rfl rfl rfl (by decide +kernel) ⟨Nat.le_of_ble_eq_true rfl, Nat.le_of_ble_eq_true rfl⟩) [1, 2] [0, 3, 4] [0, 3, 4, 1, 2] (by exact ⟨rfl, rfl, by decide, rfl⟩) 1 4 rfl rfl rfl rfl hl.1 rfl (Nat.le_of_ble_eq_true rfl) dX4_readBalloon_36 ⟨Nat.le_refl _, Nat.le_refl _⟩ (fun H locs hz hP hD hS => ?_)
      have hz_14 := hz
      refine lv_if_ne (tgt := 44) hx hb dX4_readBalloon_39 (by decide) (fun hc => ?_) (fun hc => ?_)
      · have hf := o_f hc hf
        refine lv_aload_n hx hb dX4_readBalloon_44 rfl (lv_at hl 2 rfl) ?_
        refine lv_iload_n hx hb dX4_readBalloon_45 rfl (lv_at hl 0 rfl) ?_
        refine lv_aload_n hx hb dX4_readBalloon_46 rfl (lv_at hl 1 rfl) ?_
        refine va_get (D := D) (ci := 4) (v := .int value_12) (C := RX4) (T := TX4) (N := 10) hx hb hts in_X4 hown hK hP 1 rfl rfl 5 (by decide) lk_120 (fun _ h9 => h9) rfl dX4_readBalloon_47 ?_
        obtain ⟨balloons_15, capacity_16, pigeons_17, hc, hf⟩ := ob3_some hf
        refine g_VV (As := [.int value_5, .int value_12]) (rest := []) (ws' := (w_X4_readBalloon kc a0 a1 a2 a3 a4 a5 a6 a7 a8 a9 a10 regions balloons_15 letters loft start seed start2_9 end_ place_10 kind_11 value_12 code_13 loftRead startRead seedRead text capacity_16 pigeons_17)) ⟨hx, hb, hml, hown, hts⟩ hN hK hP hD hS hA (c_X5_addBalloon l D kc N a0 a1 a2 a3 a4 a5 a6 a7 a8 regions balloons letters loft start seed capacity pigeons value_5 value_12 balloons_15 capacity_16 pigeons_17 hc) (cwV 2 hts gX4_readBalloon_X5_addBalloon rfl rfl rfl (by decide +kernel) ⟨Nat.le_of_ble_eq_true rfl, Nat.le_of_ble_eq_true rfl⟩) [0, 3, 4] [1, 2] [2, 0, 1, 3, 4] (by exact ⟨rfl, rfl, by decide, rfl⟩) 0 5 rfl rfl rfl rfl hl.1 rfl (Nat.le_of_ble_eq_true rfl) dX4_readBalloon_50 ⟨Nat.le_refl _, Nat.le_refl _⟩ (fun H locs hP hD hS => ?_)
        refine lv_iconst (v := 1) hx hb dX4_readBalloon_53 (by decide) ?_
        cases hf
        exact kR _ _ _ _ (Or.inr rfl) hP hD hS dX4_readBalloon_54
      · have hf := o_t hc hf
        refine lv_iconst (v := 0) hx hb dX4_readBalloon_42 (by decide) ?_
        cases hf
        exact kR _ _ _ _ (Or.inl rfl) hP hD hS dX4_readBalloon_43
    · have hf := o_t hc hf
      refine lv_iconst (v := 0) hx hb dX4_readBalloon_26 (by decide) ?_
      cases hf
      exact kR _ _ _ _ (Or.inl rfl) hP hD hS dX4_readBalloon_27
  · have hf := o_f hc hf
    refine lv_aload_n hx hb dX4_readBalloon_9 rfl (lv_at hl 0 rfl) ?_
    refine lv_iconst (v := 4) hx hb dX4_readBalloon_10 (by decide) ?_
    obtain ⟨r_18, code_19, hc, hf⟩ := ob2_some hf
    refine g_VZ (As := [.int 4]) (rest := []) (ws' := (w_X4_readBalloon kc a0 a1 a2 a3 a4 a5 a6 a7 a8 a9 a10 regions balloons letters loft start seed start2 end_ place kind value code_19 loftRead startRead seedRead text capacity pigeons)) ⟨hx, hb, hml, hown, hts⟩ hN hK hP hD hS hA (c_X4_fail l D kc N a9 a10 start2 end_ place kind value code loftRead startRead seedRead 4 r_18 code_19 hc) (cwV 1 hts gX4_readBalloon_X4_fail rfl rfl rfl (by decide +kernel) ⟨Nat.le_of_ble_eq_true rfl, Nat.le_of_ble_eq_true rfl⟩) [1] [0, 2, 3, 4] [0, 4, 1, 2, 3] (by exact ⟨rfl, rfl, by decide, rfl⟩) 1 4 rfl rfl rfl rfl hl.1 rfl (Nat.le_of_ble_eq_true rfl) dX4_readBalloon_11 ⟨Nat.le_refl _, Nat.le_refl _⟩ (fun H locs hz hP hD hS => ?_)
    have hz_20 := hz
    cases hf
    exact kR _ _ _ _ hz_20 hP hD hS dX4_readBalloon_14
abbrev w_X4_readLetter (kc : Nat → ClassId) (a0 a1 a2 a3 a4 a5 a6 a7 a8 a9 a10 : Nat) (regions : Int32) (balloons : Int32) (letters : Int32) (loft : Int32) (start : Int32) (seed : Int32) (start2 : Int32) (end_ : Int32) (place : Int32) (kind : Int32) (value : Int32) (code : Int32) (loftRead : Int32) (startRead : Int32) (seedRead : Int32) (text : Nat → Int32) (weight : Nat → Int32) (priority : Nat → Int32) : va_W := [(a0, .inr (5, [.ref a1, .ref a2, .ref a3, .ref a4, .ref a5, .ref a6, .ref a7, .ref a8, .int regions, .int balloons, .int letters, .int loft, .int start, .int seed])), (a9, .inr (4, [.int start2, .ref a10, .int end_, .int place, .int kind, .int value, .int code, .int loftRead, .int startRead, .int seedRead])), (a10, .inl (kc 0, 900, .inl text)), (a7, .inl (kc 1, 24, .inl weight)), (a8, .inl (kc 1, 24, .inl priority))]
set_option maxHeartbeats 4000000 in
set_option maxRecDepth 100000 in
theorem c_X4_readLetter (l : Launch) (D : va_G) (kc : Nat → ClassId) (N : Nat) (a0 a1 a2 a3 a4 a5 a6 a7 a8 a9 a10 : Nat) (regions : Int32) (balloons : Int32) (letters : Int32) (loft : Int32) (start : Int32) (seed : Int32) (start2 : Int32) (end_ : Int32) (place : Int32) (kind : Int32) (value : Int32) (code : Int32) (loftRead : Int32) (startRead : Int32) (seedRead : Int32) (text : Nat → Int32) (weight : Nat → Int32) (priority : Nat → Int32) (r_ : Int32) (letters' : Int32) (start2' : Int32) (place' : Int32) (kind' : Int32) (value' : Int32) (code' : Int32) (weight' : Nat → Int32) (priority' : Nat → Int32) (hf : f_X4_readLetter N letters start2 end_ place kind value code text weight priority = some (r_, letters', start2', place', kind', value', code', weight', priority')) : MZ l yX4_readLetter wsX4_readLetter ({ frames := 3, cells := 0, slots := 0, locals := 65 }) D kc [.ref a9, .ref a0] (w_X4_readLetter kc a0 a1 a2 a3 a4 a5 a6 a7 a8 a9 a10 regions balloons letters loft start seed start2 end_ place kind value code loftRead startRead seedRead text weight priority) (w_X4_readLetter kc a0 a1 a2 a3 a4 a5 a6 a7 a8 a9 a10 regions balloons letters' loft start seed start2' end_ place' kind' value' code' loftRead startRead seedRead text weight' priority') r_ := by
  refine gM_Z (cc := cX4_readLetter) (maxL := 3) (by decide) rfl (Nat.le_of_ble_eq_true rfl) ?_
  intro p e s m below meth c A ls Q hx hb hml hown hts hN hK hP hD hA hl kR
  have hS : va_S A s.heap s.heap [] := va_S.rf
  have hl : lv_has ls 3 [(0, .ref a9), (1, .ref a0)] := hl
  have in_X5 : ∀ w ∈ u_ws RX5 TX5 14, w ∈ wsX4_readLetter := by decide +kernel
  have lk_164 := hts (.fieldLink RX4 164 "BalloonMail$Siege" "letters" "I") (by decide +kernel)
  have in_X4 : ∀ w ∈ u_ws RX4 TX4 10, w ∈ wsX4_readLetter := by decide +kernel
  have lk_120 := hts (.fieldLink RX4 120 "BalloonMail$Reader" "value" "I") (by decide +kernel)
  unfold f_X4_readLetter at hf
  refine lv_aload_n hx hb dX4_readLetter_0 rfl (lv_at hl 1 rfl) ?_
  refine va_get (D := D) (ci := 5) (v := .int letters) (C := RX5) (T := TX5) (N := 14) hx hb hts in_X5 hown hK hP 0 rfl rfl 10 (by decide) lk_164 (fun _ h9 => h9) rfl dX4_readLetter_1 ?_
  refine lv_bipush (v := 24) hx hb dX4_readLetter_4 (by decide) ?_
  refine lv_icmp_lt (tgt := 15) hx hb dX4_readLetter_6 (by decide) (fun hc => ?_) (fun hc => ?_)
  · have hf := o_t hc hf
    refine lv_aload_n hx hb dX4_readLetter_15 rfl (lv_at hl 0 rfl) ?_
    refine lv_iconst (v := 1) hx hb dX4_readLetter_16 (by decide) ?_
    refine lv_bipush (v := 99) hx hb dX4_readLetter_17 (by decide) ?_
    obtain ⟨r_1, start2_2, place_3, kind_4, value_5, code_6, hc, hf⟩ := ob6_some hf
    refine g_VZ (As := [.int 1, .int 99]) (rest := []) (ws' := (w_X4_readLetter kc a0 a1 a2 a3 a4 a5 a6 a7 a8 a9 a10 regions balloons letters loft start seed start2_2 end_ place_3 kind_4 value_5 code_6 loftRead startRead seedRead text weight priority)) ⟨hx, hb, hml, hown, hts⟩ hN hK hP hD hS hA (c_X4_readNumber l D kc N a9 a10 start2 end_ place kind value code loftRead startRead seedRead text 1 99 r_1 start2_2 place_3 kind_4 value_5 code_6 hc) (cwV 2 hts gX4_readLetter_X4_readNumber rfl rfl rfl (by decide +kernel) ⟨Nat.le_of_ble_eq_true rfl, Nat.le_of_ble_eq_true rfl⟩) [1, 2] [0, 3, 4] [0, 3, 4, 1, 2] (by exact ⟨rfl, rfl, by decide, rfl⟩) 1 4 rfl rfl rfl rfl hl.1 rfl (Nat.le_of_ble_eq_true rfl) dX4_readLetter_19 ⟨Nat.le_refl _, Nat.le_refl _⟩ (fun H locs hz hP hD hS => ?_)
    have hz_7 := hz
    refine lv_if_ne (tgt := 27) hx hb dX4_readLetter_22 (by decide) (fun hc => ?_) (fun hc => ?_)
    · have hf := o_f hc hf
      refine lv_aload_n hx hb dX4_readLetter_27 rfl (lv_at hl 0 rfl) ?_
      refine va_get (D := D) (ci := 4) (v := .int value_5) (C := RX4) (T := TX4) (N := 10) hx hb hts in_X4 hown hK hP 1 rfl rfl 5 (by decide) lk_120 (fun _ h9 => h9) rfl dX4_readLetter_28 ?_
      refine lv_istore_n (lv' := [(2, .int value_5), (0, .ref a9), (1, .ref a0)]) hx hb dX4_readLetter_31 rfl hl (by decide) rfl (fun ls hl => ?_)
      refine lv_aload_n hx hb dX4_readLetter_32 rfl (lv_at hl 1 rfl) ?_
      refine lv_iconst (v := 1) hx hb dX4_readLetter_33 (by decide) ?_
      refine lv_bipush (v := 9) hx hb dX4_readLetter_34 (by decide) ?_
      obtain ⟨r_8, start2_9, place_10, kind_11, value_12, code_13, hc, hf⟩ := ob6_some hf
      refine g_VZ (As := [.int 1, .int 9]) (rest := []) (ws' := (w_X4_readLetter kc a0 a1 a2 a3 a4 a5 a6 a7 a8 a9 a10 regions balloons letters loft start seed start2_9 end_ place_10 kind_11 value_12 code_13 loftRead startRead seedRead text weight priority)) ⟨hx, hb, hml, hown, hts⟩ hN hK hP hD hS hA (c_X4_readNumber l D kc N a9 a10 start2_2 end_ place_3 kind_4 value_5 code_6 loftRead startRead seedRead text 1 9 r_8 start2_9 place_10 kind_11 value_12 code_13 hc) (cwV 2 hts gX4_readLetter_X4_readNumber rfl rfl rfl (by decide +kernel) ⟨Nat.le_of_ble_eq_true rfl, Nat.le_of_ble_eq_true rfl⟩) [1, 2] [0, 3, 4] [0, 3, 4, 1, 2] (by exact ⟨rfl, rfl, by decide, rfl⟩) 1 4 rfl rfl rfl rfl hl.1 rfl (Nat.le_of_ble_eq_true rfl) dX4_readLetter_36 ⟨Nat.le_refl _, Nat.le_refl _⟩ (fun H locs hz hP hD hS => ?_)
      have hz_14 := hz
      refine lv_if_ne (tgt := 44) hx hb dX4_readLetter_39 (by decide) (fun hc => ?_) (fun hc => ?_)
      · have hf := o_f hc hf
        refine lv_aload_n hx hb dX4_readLetter_44 rfl (lv_at hl 2 rfl) ?_
        refine lv_iload_n hx hb dX4_readLetter_45 rfl (lv_at hl 0 rfl) ?_
        refine lv_aload_n hx hb dX4_readLetter_46 rfl (lv_at hl 1 rfl) ?_
        refine va_get (D := D) (ci := 4) (v := .int value_12) (C := RX4) (T := TX4) (N := 10) hx hb hts in_X4 hown hK hP 1 rfl rfl 5 (by decide) lk_120 (fun _ h9 => h9) rfl dX4_readLetter_47 ?_
        obtain ⟨letters_15, weight_16, priority_17, hc, hf⟩ := ob3_some hf
        refine g_VV (As := [.int value_5, .int value_12]) (rest := []) (ws' := (w_X4_readLetter kc a0 a1 a2 a3 a4 a5 a6 a7 a8 a9 a10 regions balloons letters_15 loft start seed start2_9 end_ place_10 kind_11 value_12 code_13 loftRead startRead seedRead text weight_16 priority_17)) ⟨hx, hb, hml, hown, hts⟩ hN hK hP hD hS hA (c_X5_addLetter l D kc N a0 a1 a2 a3 a4 a5 a6 a7 a8 regions balloons letters loft start seed weight priority value_5 value_12 letters_15 weight_16 priority_17 hc) (cwV 2 hts gX4_readLetter_X5_addLetter rfl rfl rfl (by decide +kernel) ⟨Nat.le_of_ble_eq_true rfl, Nat.le_of_ble_eq_true rfl⟩) [0, 3, 4] [1, 2] [2, 0, 1, 3, 4] (by exact ⟨rfl, rfl, by decide, rfl⟩) 0 5 rfl rfl rfl rfl hl.1 rfl (Nat.le_of_ble_eq_true rfl) dX4_readLetter_50 ⟨Nat.le_refl _, Nat.le_refl _⟩ (fun H locs hP hD hS => ?_)
        refine lv_iconst (v := 1) hx hb dX4_readLetter_53 (by decide) ?_
        cases hf
        exact kR _ _ _ _ (Or.inr rfl) hP hD hS dX4_readLetter_54
      · have hf := o_t hc hf
        refine lv_iconst (v := 0) hx hb dX4_readLetter_42 (by decide) ?_
        cases hf
        exact kR _ _ _ _ (Or.inl rfl) hP hD hS dX4_readLetter_43
    · have hf := o_t hc hf
      refine lv_iconst (v := 0) hx hb dX4_readLetter_25 (by decide) ?_
      cases hf
      exact kR _ _ _ _ (Or.inl rfl) hP hD hS dX4_readLetter_26
  · have hf := o_f hc hf
    refine lv_aload_n hx hb dX4_readLetter_9 rfl (lv_at hl 0 rfl) ?_
    refine lv_iconst (v := 4) hx hb dX4_readLetter_10 (by decide) ?_
    obtain ⟨r_18, code_19, hc, hf⟩ := ob2_some hf
    refine g_VZ (As := [.int 4]) (rest := []) (ws' := (w_X4_readLetter kc a0 a1 a2 a3 a4 a5 a6 a7 a8 a9 a10 regions balloons letters loft start seed start2 end_ place kind value code_19 loftRead startRead seedRead text weight priority)) ⟨hx, hb, hml, hown, hts⟩ hN hK hP hD hS hA (c_X4_fail l D kc N a9 a10 start2 end_ place kind value code loftRead startRead seedRead 4 r_18 code_19 hc) (cwV 1 hts gX4_readLetter_X4_fail rfl rfl rfl (by decide +kernel) ⟨Nat.le_of_ble_eq_true rfl, Nat.le_of_ble_eq_true rfl⟩) [1] [0, 2, 3, 4] [0, 4, 1, 2, 3] (by exact ⟨rfl, rfl, by decide, rfl⟩) 1 4 rfl rfl rfl rfl hl.1 rfl (Nat.le_of_ble_eq_true rfl) dX4_readLetter_11 ⟨Nat.le_refl _, Nat.le_refl _⟩ (fun H locs hz hP hD hS => ?_)
    have hz_20 := hz
    cases hf
    exact kR _ _ _ _ hz_20 hP hD hS dX4_readLetter_14
abbrev w_X4_readLoft (kc : Nat → ClassId) (a0 a1 a2 a3 a4 a5 a6 a7 a8 a9 a10 : Nat) (start : Int32) (end_ : Int32) (place : Int32) (kind : Int32) (value : Int32) (code : Int32) (loftRead : Int32) (startRead : Int32) (seedRead : Int32) (text : Nat → Int32) (regions : Int32) (balloons : Int32) (letters : Int32) (loft : Int32) (start2 : Int32) (seed : Int32) : va_W := [(a0, .inr (4, [.int start, .ref a1, .int end_, .int place, .int kind, .int value, .int code, .int loftRead, .int startRead, .int seedRead])), (a1, .inl (kc 0, 900, .inl text)), (a2, .inr (5, [.ref a3, .ref a4, .ref a5, .ref a6, .ref a7, .ref a8, .ref a9, .ref a10, .int regions, .int balloons, .int letters, .int loft, .int start2, .int seed]))]
set_option maxHeartbeats 4000000 in
set_option maxRecDepth 100000 in
theorem c_X4_readLoft (l : Launch) (D : va_G) (kc : Nat → ClassId) (N : Nat) (a0 a1 a2 a3 a4 a5 a6 a7 a8 a9 a10 : Nat) (start : Int32) (end_ : Int32) (place : Int32) (kind : Int32) (value : Int32) (code : Int32) (loftRead : Int32) (startRead : Int32) (seedRead : Int32) (text : Nat → Int32) (regions : Int32) (balloons : Int32) (letters : Int32) (loft : Int32) (start2 : Int32) (seed : Int32) (r_ : Int32) (start' : Int32) (place' : Int32) (kind' : Int32) (value' : Int32) (code' : Int32) (loftRead' : Int32) (loft' : Int32) (hf : f_X4_readLoft N start end_ place kind value code loftRead text loft = some (r_, start', place', kind', value', code', loftRead', loft')) : MZ l yX4_readLoft wsX4_readLoft ({ frames := 3, cells := 0, slots := 0, locals := 65 }) D kc [.ref a0, .ref a2] (w_X4_readLoft kc a0 a1 a2 a3 a4 a5 a6 a7 a8 a9 a10 start end_ place kind value code loftRead startRead seedRead text regions balloons letters loft start2 seed) (w_X4_readLoft kc a0 a1 a2 a3 a4 a5 a6 a7 a8 a9 a10 start' end_ place' kind' value' code' loftRead' startRead seedRead text regions balloons letters loft' start2 seed) r_ := by
  refine gM_Z (cc := cX4_readLoft) (maxL := 2) (by decide) rfl (Nat.le_of_ble_eq_true rfl) ?_
  intro p e s m below meth c A ls Q hx hb hml hown hts hN hK hP hD hA hl kR
  have hS : va_S A s.heap s.heap [] := va_S.rf
  have hl : lv_has ls 2 [(0, .ref a0), (1, .ref a2)] := hl
  have in_X4 : ∀ w ∈ u_ws RX4 TX4 10, w ∈ wsX4_readLoft := by decide +kernel
  have lk_36 := hts (.fieldLink RX4 36 "BalloonMail$Reader" "loftRead" "Z") (by decide +kernel)
  have lk_120 := hts (.fieldLink RX4 120 "BalloonMail$Reader" "value" "I") (by decide +kernel)
  have in_X5 : ∀ w ∈ u_ws RX5 TX5 14, w ∈ wsX4_readLoft := by decide +kernel
  have lk_170 := hts (.fieldLink RX4 170 "BalloonMail$Siege" "loft" "I") (by decide +kernel)
  unfold f_X4_readLoft at hf
  refine lv_aload_n hx hb dX4_readLoft_0 rfl (lv_at hl 0 rfl) ?_
  refine va_get (D := D) (ci := 4) (v := .int loftRead) (C := RX4) (T := TX4) (N := 10) hx hb hts in_X4 hown hK hP 0 rfl rfl 7 (by decide) lk_36 (fun _ h9 => h9) rfl dX4_readLoft_1 ?_
  refine lv_if_eq (tgt := 13) hx hb dX4_readLoft_4 (by decide) (fun hc => ?_) (fun hc => ?_)
  · have hf := o_t hc hf
    refine lv_aload_n hx hb dX4_readLoft_13 rfl (lv_at hl 0 rfl) ?_
    refine lv_iconst (v := 1) hx hb dX4_readLoft_14 (by decide) ?_
    refine va_put (D := D) (ci := 4) (v := .int 1) (ty := .boolean) (C := RX4) (T := TX4) (N := 10) hx hb hts in_X4 tyX4 tyX4_ok nmX4 hown hK hP hD hS 0 rfl rfl 7 (by decide) lk_36 (fun _ h9 => h9) rfl (by decide +kernel) rfl rfl (Nat.le_of_ble_eq_true rfl) dX4_readLoft_15 (fun H locs hP hD hS => ?_)
    have hP : va_P D vwCl (w_X4_readLoft kc a0 a1 a2 a3 a4 a5 a6 a7 a8 a9 a10 start end_ place kind value code 1 startRead seedRead text regions balloons letters loft start2 seed) H := hP
    have hD : va_D A (w_X4_readLoft kc a0 a1 a2 a3 a4 a5 a6 a7 a8 a9 a10 start end_ place kind value code 1 startRead seedRead text regions balloons letters loft start2 seed) := hD
    refine lv_aload_n hx hb dX4_readLoft_18 rfl (lv_at hl 0 rfl) ?_
    refine lv_iconst (v := 0) hx hb dX4_readLoft_19 (by decide) ?_
    refine lv_bipush (v := 40) hx hb dX4_readLoft_20 (by decide) ?_
    obtain ⟨r_1, start_2, place_3, kind_4, value_5, code_6, hc, hf⟩ := ob6_some hf
    refine g_VZ (As := [.int 0, .int 40]) (rest := []) (ws' := (w_X4_readLoft kc a0 a1 a2 a3 a4 a5 a6 a7 a8 a9 a10 start_2 end_ place_3 kind_4 value_5 code_6 1 startRead seedRead text regions balloons letters loft start2 seed)) ⟨hx, hb, hml, hown, hts⟩ hN hK hP hD hS hA (c_X4_readNumber l D kc N a0 a1 start end_ place kind value code 1 startRead seedRead text 0 40 r_1 start_2 place_3 kind_4 value_5 code_6 hc) (cwV 2 hts gX4_readLoft_X4_readNumber rfl rfl rfl (by decide +kernel) ⟨Nat.le_of_ble_eq_true rfl, Nat.le_of_ble_eq_true rfl⟩) [0, 1] [2] [1, 2, 0] (by exact ⟨rfl, rfl, by decide, rfl⟩) 0 4 rfl rfl rfl rfl hl.1 rfl (Nat.le_of_ble_eq_true rfl) dX4_readLoft_22 ⟨Nat.le_refl _, Nat.le_refl _⟩ (fun H locs hz hP hD hS => ?_)
    have hz_7 := hz
    refine lv_if_ne (tgt := 30) hx hb dX4_readLoft_25 (by decide) (fun hc => ?_) (fun hc => ?_)
    · have hf := o_f hc hf
      refine lv_aload_n hx hb dX4_readLoft_30 rfl (lv_at hl 1 rfl) ?_
      refine lv_aload_n hx hb dX4_readLoft_31 rfl (lv_at hl 0 rfl) ?_
      refine va_get (D := D) (ci := 4) (v := .int value_5) (C := RX4) (T := TX4) (N := 10) hx hb hts in_X4 hown hK hP 0 rfl rfl 5 (by decide) lk_120 (fun _ h9 => h9) rfl dX4_readLoft_32 ?_
      refine va_put (D := D) (ci := 5) (v := .int value_5) (ty := .int) (C := RX5) (T := TX5) (N := 14) hx hb hts in_X5 tyX5 tyX5_ok nmX5 hown hK hP hD hS 2 rfl rfl 11 (by decide) lk_170 (fun _ h9 => h9) rfl (by decide +kernel) rfl rfl (Nat.le_of_ble_eq_true rfl) dX4_readLoft_35 (fun H locs hP hD hS => ?_)
      have hP : va_P D vwCl (w_X4_readLoft kc a0 a1 a2 a3 a4 a5 a6 a7 a8 a9 a10 start_2 end_ place_3 kind_4 value_5 code_6 1 startRead seedRead text regions balloons letters value_5 start2 seed) H := hP
      have hD : va_D A (w_X4_readLoft kc a0 a1 a2 a3 a4 a5 a6 a7 a8 a9 a10 start_2 end_ place_3 kind_4 value_5 code_6 1 startRead seedRead text regions balloons letters value_5 start2 seed) := hD
      refine lv_iconst (v := 1) hx hb dX4_readLoft_38 (by decide) ?_
      cases hf
      exact kR _ _ _ _ (Or.inr rfl) hP hD hS dX4_readLoft_39
    · have hf := o_t hc hf
      refine lv_iconst (v := 0) hx hb dX4_readLoft_28 (by decide) ?_
      cases hf
      exact kR _ _ _ _ (Or.inl rfl) hP hD hS dX4_readLoft_29
  · have hf := o_f hc hf
    refine lv_aload_n hx hb dX4_readLoft_7 rfl (lv_at hl 0 rfl) ?_
    refine lv_iconst (v := 2) hx hb dX4_readLoft_8 (by decide) ?_
    obtain ⟨r_8, code_9, hc, hf⟩ := ob2_some hf
    refine g_VZ (As := [.int 2]) (rest := []) (ws' := (w_X4_readLoft kc a0 a1 a2 a3 a4 a5 a6 a7 a8 a9 a10 start end_ place kind value code_9 loftRead startRead seedRead text regions balloons letters loft start2 seed)) ⟨hx, hb, hml, hown, hts⟩ hN hK hP hD hS hA (c_X4_fail l D kc N a0 a1 start end_ place kind value code loftRead startRead seedRead 2 r_8 code_9 hc) (cwV 1 hts gX4_readLoft_X4_fail rfl rfl rfl (by decide +kernel) ⟨Nat.le_of_ble_eq_true rfl, Nat.le_of_ble_eq_true rfl⟩) [0] [1, 2] [2, 0, 1] (by exact ⟨rfl, rfl, by decide, rfl⟩) 0 4 rfl rfl rfl rfl hl.1 rfl (Nat.le_of_ble_eq_true rfl) dX4_readLoft_9 ⟨Nat.le_refl _, Nat.le_refl _⟩ (fun H locs hz hP hD hS => ?_)
    have hz_10 := hz
    cases hf
    exact kR _ _ _ _ hz_10 hP hD hS dX4_readLoft_12
abbrev w_X4_readStart (kc : Nat → ClassId) (a0 a1 a2 a3 a4 a5 a6 a7 a8 a9 a10 a11 a12 a13 a14 a15 a16 : Nat) (start : Int32) (end_ : Int32) (place : Int32) (kind : Int32) (value : Int32) (code : Int32) (loftRead : Int32) (startRead : Int32) (seedRead : Int32) (regions : Int32) (balloons : Int32) (letters : Int32) (loft : Int32) (start2 : Int32) (seed : Int32) (count : Int32) (turnCount : Int32) (text : Nat → Int32) : va_W := [(a0, .inr (4, [.int start, .ref a1, .int end_, .int place, .int kind, .int value, .int code, .int loftRead, .int startRead, .int seedRead])), (a2, .inr (5, [.ref a3, .ref a4, .ref a5, .ref a6, .ref a7, .ref a8, .ref a9, .ref a10, .int regions, .int balloons, .int letters, .int loft, .int start2, .int seed])), (a3, .inr (7, [.int count, .int turnCount, .ref a11, .ref a12, .ref a13, .ref a14, .ref a15, .ref a16])), (a1, .inl (kc 0, 900, .inl text))]
set_option maxHeartbeats 4000000 in
set_option maxRecDepth 100000 in
theorem c_X4_readStart (l : Launch) (D : va_G) (kc : Nat → ClassId) (N : Nat) (a0 a1 a2 a3 a4 a5 a6 a7 a8 a9 a10 a11 a12 a13 a14 a15 a16 : Nat) (start : Int32) (end_ : Int32) (place : Int32) (kind : Int32) (value : Int32) (code : Int32) (loftRead : Int32) (startRead : Int32) (seedRead : Int32) (regions : Int32) (balloons : Int32) (letters : Int32) (loft : Int32) (start2 : Int32) (seed : Int32) (count : Int32) (turnCount : Int32) (text : Nat → Int32) (r_ : Int32) (start' : Int32) (place' : Int32) (kind' : Int32) (value' : Int32) (code' : Int32) (startRead' : Int32) (start2' : Int32) (hf : f_X4_readStart N start end_ place kind value code startRead start2 count text = some (r_, start', place', kind', value', code', startRead', start2')) : MZ l yX4_readStart wsX4_readStart ({ frames := 3, cells := 0, slots := 0, locals := 65 }) D kc [.ref a0, .ref a2] (w_X4_readStart kc a0 a1 a2 a3 a4 a5 a6 a7 a8 a9 a10 a11 a12 a13 a14 a15 a16 start end_ place kind value code loftRead startRead seedRead regions balloons letters loft start2 seed count turnCount text) (w_X4_readStart kc a0 a1 a2 a3 a4 a5 a6 a7 a8 a9 a10 a11 a12 a13 a14 a15 a16 start' end_ place' kind' value' code' loftRead startRead' seedRead regions balloons letters loft start2' seed count turnCount text) r_ := by
  refine gM_Z (cc := cX4_readStart) (maxL := 2) (by decide) rfl (Nat.le_of_ble_eq_true rfl) ?_
  intro p e s m below meth c A ls Q hx hb hml hown hts hN hK hP hD hA hl kR
  have hS : va_S A s.heap s.heap [] := va_S.rf
  have hl : lv_has ls 2 [(0, .ref a0), (1, .ref a2)] := hl
  have in_X4 : ∀ w ∈ u_ws RX4 TX4 10, w ∈ wsX4_readStart := by decide +kernel
  have lk_40 := hts (.fieldLink RX4 40 "BalloonMail$Reader" "startRead" "Z") (by decide +kernel)
  have in_X5 : ∀ w ∈ u_ws RX5 TX5 14, w ∈ wsX4_readStart := by decide +kernel
  have lk_80 := hts (.fieldLink RX4 80 "BalloonMail$Siege" "winds" "LBalloonMail$Winds;") (by decide +kernel)
  have in_X7 : ∀ w ∈ u_ws RX7 TX7 8, w ∈ wsX4_readStart := by decide +kernel
  have lk_127 := hts (.fieldLink RX4 127 "BalloonMail$Winds" "count" "I") (by decide +kernel)
  have lk_120 := hts (.fieldLink RX4 120 "BalloonMail$Reader" "value" "I") (by decide +kernel)
  have lk_172 := hts (.fieldLink RX4 172 "BalloonMail$Siege" "start" "I") (by decide +kernel)
  unfold f_X4_readStart at hf
  refine lv_aload_n hx hb dX4_readStart_0 rfl (lv_at hl 0 rfl) ?_
  refine va_get (D := D) (ci := 4) (v := .int startRead) (C := RX4) (T := TX4) (N := 10) hx hb hts in_X4 hown hK hP 0 rfl rfl 8 (by decide) lk_40 (fun _ h9 => h9) rfl dX4_readStart_1 ?_
  refine lv_if_eq (tgt := 13) hx hb dX4_readStart_4 (by decide) (fun hc => ?_) (fun hc => ?_)
  · have hf := o_t hc hf
    refine lv_aload_n hx hb dX4_readStart_13 rfl (lv_at hl 0 rfl) ?_
    refine lv_iconst (v := 1) hx hb dX4_readStart_14 (by decide) ?_
    refine va_put (D := D) (ci := 4) (v := .int 1) (ty := .boolean) (C := RX4) (T := TX4) (N := 10) hx hb hts in_X4 tyX4 tyX4_ok nmX4 hown hK hP hD hS 0 rfl rfl 8 (by decide) lk_40 (fun _ h9 => h9) rfl (by decide +kernel) rfl rfl (Nat.le_of_ble_eq_true rfl) dX4_readStart_15 (fun H locs hP hD hS => ?_)
    have hP : va_P D vwCl (w_X4_readStart kc a0 a1 a2 a3 a4 a5 a6 a7 a8 a9 a10 a11 a12 a13 a14 a15 a16 start end_ place kind value code loftRead 1 seedRead regions balloons letters loft start2 seed count turnCount text) H := hP
    have hD : va_D A (w_X4_readStart kc a0 a1 a2 a3 a4 a5 a6 a7 a8 a9 a10 a11 a12 a13 a14 a15 a16 start end_ place kind value code loftRead 1 seedRead regions balloons letters loft start2 seed count turnCount text) := hD
    refine lv_aload_n hx hb dX4_readStart_18 rfl (lv_at hl 0 rfl) ?_
    refine lv_iconst (v := 0) hx hb dX4_readStart_19 (by decide) ?_
    refine lv_aload_n hx hb dX4_readStart_20 rfl (lv_at hl 1 rfl) ?_
    refine va_get (D := D) (ci := 5) (v := .ref a3) (C := RX5) (T := TX5) (N := 14) hx hb hts in_X5 hown hK hP 1 rfl rfl 0 (by decide) lk_80 (fun _ h9 => h9) rfl dX4_readStart_21 ?_
    refine va_get (D := D) (ci := 7) (v := .int count) (C := RX7) (T := TX7) (N := 8) hx hb hts in_X7 hown hK hP 2 rfl rfl 0 (by decide) lk_127 (fun _ h9 => h9) rfl dX4_readStart_24 ?_
    refine lv_iconst (v := 1) hx hb dX4_readStart_27 (by decide) ?_
    refine lv_isub hx hb dX4_readStart_28 ?_
    obtain ⟨r_1, start_2, place_3, kind_4, value_5, code_6, hc, hf⟩ := ob6_some hf
    refine g_VZ (As := [.int 0, .int (count - 1)]) (rest := []) (ws' := (w_X4_readStart kc a0 a1 a2 a3 a4 a5 a6 a7 a8 a9 a10 a11 a12 a13 a14 a15 a16 start_2 end_ place_3 kind_4 value_5 code_6 loftRead 1 seedRead regions balloons letters loft start2 seed count turnCount text)) ⟨hx, hb, hml, hown, hts⟩ hN hK hP hD hS hA (c_X4_readNumber l D kc N a0 a1 start end_ place kind value code loftRead 1 seedRead text 0 (count - 1) r_1 start_2 place_3 kind_4 value_5 code_6 hc) (cwV 2 hts gX4_readStart_X4_readNumber rfl rfl rfl (by decide +kernel) ⟨Nat.le_of_ble_eq_true rfl, Nat.le_of_ble_eq_true rfl⟩) [0, 3] [1, 2] [2, 0, 1, 3] (by exact ⟨rfl, rfl, by decide, rfl⟩) 0 4 rfl rfl rfl rfl hl.1 rfl (Nat.le_of_ble_eq_true rfl) dX4_readStart_29 ⟨Nat.le_refl _, Nat.le_refl _⟩ (fun H locs hz hP hD hS => ?_)
    have hz_7 := hz
    refine lv_if_ne (tgt := 37) hx hb dX4_readStart_32 (by decide) (fun hc => ?_) (fun hc => ?_)
    · have hf := o_f hc hf
      refine lv_aload_n hx hb dX4_readStart_37 rfl (lv_at hl 1 rfl) ?_
      refine lv_aload_n hx hb dX4_readStart_38 rfl (lv_at hl 0 rfl) ?_
      refine va_get (D := D) (ci := 4) (v := .int value_5) (C := RX4) (T := TX4) (N := 10) hx hb hts in_X4 hown hK hP 0 rfl rfl 5 (by decide) lk_120 (fun _ h9 => h9) rfl dX4_readStart_39 ?_
      refine va_put (D := D) (ci := 5) (v := .int value_5) (ty := .int) (C := RX5) (T := TX5) (N := 14) hx hb hts in_X5 tyX5 tyX5_ok nmX5 hown hK hP hD hS 1 rfl rfl 12 (by decide) lk_172 (fun _ h9 => h9) rfl (by decide +kernel) rfl rfl (Nat.le_of_ble_eq_true rfl) dX4_readStart_42 (fun H locs hP hD hS => ?_)
      have hP : va_P D vwCl (w_X4_readStart kc a0 a1 a2 a3 a4 a5 a6 a7 a8 a9 a10 a11 a12 a13 a14 a15 a16 start_2 end_ place_3 kind_4 value_5 code_6 loftRead 1 seedRead regions balloons letters loft value_5 seed count turnCount text) H := hP
      have hD : va_D A (w_X4_readStart kc a0 a1 a2 a3 a4 a5 a6 a7 a8 a9 a10 a11 a12 a13 a14 a15 a16 start_2 end_ place_3 kind_4 value_5 code_6 loftRead 1 seedRead regions balloons letters loft value_5 seed count turnCount text) := hD
      refine lv_iconst (v := 1) hx hb dX4_readStart_45 (by decide) ?_
      cases hf
      exact kR _ _ _ _ (Or.inr rfl) hP hD hS dX4_readStart_46
    · have hf := o_t hc hf
      refine lv_iconst (v := 0) hx hb dX4_readStart_35 (by decide) ?_
      cases hf
      exact kR _ _ _ _ (Or.inl rfl) hP hD hS dX4_readStart_36
  · have hf := o_f hc hf
    refine lv_aload_n hx hb dX4_readStart_7 rfl (lv_at hl 0 rfl) ?_
    refine lv_iconst (v := 2) hx hb dX4_readStart_8 (by decide) ?_
    obtain ⟨r_8, code_9, hc, hf⟩ := ob2_some hf
    refine g_VZ (As := [.int 2]) (rest := []) (ws' := (w_X4_readStart kc a0 a1 a2 a3 a4 a5 a6 a7 a8 a9 a10 a11 a12 a13 a14 a15 a16 start end_ place kind value code_9 loftRead startRead seedRead regions balloons letters loft start2 seed count turnCount text)) ⟨hx, hb, hml, hown, hts⟩ hN hK hP hD hS hA (c_X4_fail l D kc N a0 a1 start end_ place kind value code loftRead startRead seedRead 2 r_8 code_9 hc) (cwV 1 hts gX4_readStart_X4_fail rfl rfl rfl (by decide +kernel) ⟨Nat.le_of_ble_eq_true rfl, Nat.le_of_ble_eq_true rfl⟩) [0] [1, 2, 3] [3, 0, 1, 2] (by exact ⟨rfl, rfl, by decide, rfl⟩) 0 4 rfl rfl rfl rfl hl.1 rfl (Nat.le_of_ble_eq_true rfl) dX4_readStart_9 ⟨Nat.le_refl _, Nat.le_refl _⟩ (fun H locs hz hP hD hS => ?_)
    have hz_10 := hz
    cases hf
    exact kR _ _ _ _ hz_10 hP hD hS dX4_readStart_12
abbrev w_X4_readSeed (kc : Nat → ClassId) (a0 a1 a2 a3 a4 a5 a6 a7 a8 a9 a10 : Nat) (start : Int32) (end_ : Int32) (place : Int32) (kind : Int32) (value : Int32) (code : Int32) (loftRead : Int32) (startRead : Int32) (seedRead : Int32) (text : Nat → Int32) (regions : Int32) (balloons : Int32) (letters : Int32) (loft : Int32) (start2 : Int32) (seed : Int32) : va_W := [(a0, .inr (4, [.int start, .ref a1, .int end_, .int place, .int kind, .int value, .int code, .int loftRead, .int startRead, .int seedRead])), (a1, .inl (kc 0, 900, .inl text)), (a2, .inr (5, [.ref a3, .ref a4, .ref a5, .ref a6, .ref a7, .ref a8, .ref a9, .ref a10, .int regions, .int balloons, .int letters, .int loft, .int start2, .int seed]))]
set_option maxHeartbeats 4000000 in
set_option maxRecDepth 100000 in
theorem c_X4_readSeed (l : Launch) (D : va_G) (kc : Nat → ClassId) (N : Nat) (a0 a1 a2 a3 a4 a5 a6 a7 a8 a9 a10 : Nat) (start : Int32) (end_ : Int32) (place : Int32) (kind : Int32) (value : Int32) (code : Int32) (loftRead : Int32) (startRead : Int32) (seedRead : Int32) (text : Nat → Int32) (regions : Int32) (balloons : Int32) (letters : Int32) (loft : Int32) (start2 : Int32) (seed : Int32) (r_ : Int32) (start' : Int32) (place' : Int32) (kind' : Int32) (value' : Int32) (code' : Int32) (seedRead' : Int32) (seed' : Int32) (hf : f_X4_readSeed N start end_ place kind value code seedRead text seed = some (r_, start', place', kind', value', code', seedRead', seed')) : MZ l yX4_readSeed wsX4_readSeed ({ frames := 3, cells := 0, slots := 0, locals := 65 }) D kc [.ref a0, .ref a2] (w_X4_readSeed kc a0 a1 a2 a3 a4 a5 a6 a7 a8 a9 a10 start end_ place kind value code loftRead startRead seedRead text regions balloons letters loft start2 seed) (w_X4_readSeed kc a0 a1 a2 a3 a4 a5 a6 a7 a8 a9 a10 start' end_ place' kind' value' code' loftRead startRead seedRead' text regions balloons letters loft start2 seed') r_ := by
  refine gM_Z (cc := cX4_readSeed) (maxL := 2) (by decide) rfl (Nat.le_of_ble_eq_true rfl) ?_
  intro p e s m below meth c A ls Q hx hb hml hown hts hN hK hP hD hA hl kR
  have hS : va_S A s.heap s.heap [] := va_S.rf
  have hl : lv_has ls 2 [(0, .ref a0), (1, .ref a2)] := hl
  have in_X4 : ∀ w ∈ u_ws RX4 TX4 10, w ∈ wsX4_readSeed := by decide +kernel
  have lk_43 := hts (.fieldLink RX4 43 "BalloonMail$Reader" "seedRead" "Z") (by decide +kernel)
  have lk_120 := hts (.fieldLink RX4 120 "BalloonMail$Reader" "value" "I") (by decide +kernel)
  have in_X5 : ∀ w ∈ u_ws RX5 TX5 14, w ∈ wsX4_readSeed := by decide +kernel
  have lk_174 := hts (.fieldLink RX4 174 "BalloonMail$Siege" "seed" "I") (by decide +kernel)
  unfold f_X4_readSeed at hf
  refine lv_aload_n hx hb dX4_readSeed_0 rfl (lv_at hl 0 rfl) ?_
  refine va_get (D := D) (ci := 4) (v := .int seedRead) (C := RX4) (T := TX4) (N := 10) hx hb hts in_X4 hown hK hP 0 rfl rfl 9 (by decide) lk_43 (fun _ h9 => h9) rfl dX4_readSeed_1 ?_
  refine lv_if_eq (tgt := 13) hx hb dX4_readSeed_4 (by decide) (fun hc => ?_) (fun hc => ?_)
  · have hf := o_t hc hf
    refine lv_aload_n hx hb dX4_readSeed_13 rfl (lv_at hl 0 rfl) ?_
    refine lv_iconst (v := 1) hx hb dX4_readSeed_14 (by decide) ?_
    refine va_put (D := D) (ci := 4) (v := .int 1) (ty := .boolean) (C := RX4) (T := TX4) (N := 10) hx hb hts in_X4 tyX4 tyX4_ok nmX4 hown hK hP hD hS 0 rfl rfl 9 (by decide) lk_43 (fun _ h9 => h9) rfl (by decide +kernel) rfl rfl (Nat.le_of_ble_eq_true rfl) dX4_readSeed_15 (fun H locs hP hD hS => ?_)
    have hP : va_P D vwCl (w_X4_readSeed kc a0 a1 a2 a3 a4 a5 a6 a7 a8 a9 a10 start end_ place kind value code loftRead startRead 1 text regions balloons letters loft start2 seed) H := hP
    have hD : va_D A (w_X4_readSeed kc a0 a1 a2 a3 a4 a5 a6 a7 a8 a9 a10 start end_ place kind value code loftRead startRead 1 text regions balloons letters loft start2 seed) := hD
    refine lv_aload_n hx hb dX4_readSeed_18 rfl (lv_at hl 0 rfl) ?_
    refine lv_iconst (v := 0) hx hb dX4_readSeed_19 (by decide) ?_
    refine lv_sipush (v := 9999) hx hb dX4_readSeed_20 (by decide) ?_
    obtain ⟨r_1, start_2, place_3, kind_4, value_5, code_6, hc, hf⟩ := ob6_some hf
    refine g_VZ (As := [.int 0, .int 9999]) (rest := []) (ws' := (w_X4_readSeed kc a0 a1 a2 a3 a4 a5 a6 a7 a8 a9 a10 start_2 end_ place_3 kind_4 value_5 code_6 loftRead startRead 1 text regions balloons letters loft start2 seed)) ⟨hx, hb, hml, hown, hts⟩ hN hK hP hD hS hA (c_X4_readNumber l D kc N a0 a1 start end_ place kind value code loftRead startRead 1 text 0 9999 r_1 start_2 place_3 kind_4 value_5 code_6 hc) (cwV 2 hts gX4_readSeed_X4_readNumber rfl rfl rfl (by decide +kernel) ⟨Nat.le_of_ble_eq_true rfl, Nat.le_of_ble_eq_true rfl⟩) [0, 1] [2] [1, 2, 0] (by exact ⟨rfl, rfl, by decide, rfl⟩) 0 4 rfl rfl rfl rfl hl.1 rfl (Nat.le_of_ble_eq_true rfl) dX4_readSeed_23 ⟨Nat.le_refl _, Nat.le_refl _⟩ (fun H locs hz hP hD hS => ?_)
    have hz_7 := hz
    refine lv_if_ne (tgt := 31) hx hb dX4_readSeed_26 (by decide) (fun hc => ?_) (fun hc => ?_)
    · have hf := o_f hc hf
      refine lv_aload_n hx hb dX4_readSeed_31 rfl (lv_at hl 1 rfl) ?_
      refine lv_aload_n hx hb dX4_readSeed_32 rfl (lv_at hl 0 rfl) ?_
      refine va_get (D := D) (ci := 4) (v := .int value_5) (C := RX4) (T := TX4) (N := 10) hx hb hts in_X4 hown hK hP 0 rfl rfl 5 (by decide) lk_120 (fun _ h9 => h9) rfl dX4_readSeed_33 ?_
      refine va_put (D := D) (ci := 5) (v := .int value_5) (ty := .int) (C := RX5) (T := TX5) (N := 14) hx hb hts in_X5 tyX5 tyX5_ok nmX5 hown hK hP hD hS 2 rfl rfl 13 (by decide) lk_174 (fun _ h9 => h9) rfl (by decide +kernel) rfl rfl (Nat.le_of_ble_eq_true rfl) dX4_readSeed_36 (fun H locs hP hD hS => ?_)
      have hP : va_P D vwCl (w_X4_readSeed kc a0 a1 a2 a3 a4 a5 a6 a7 a8 a9 a10 start_2 end_ place_3 kind_4 value_5 code_6 loftRead startRead 1 text regions balloons letters loft start2 value_5) H := hP
      have hD : va_D A (w_X4_readSeed kc a0 a1 a2 a3 a4 a5 a6 a7 a8 a9 a10 start_2 end_ place_3 kind_4 value_5 code_6 loftRead startRead 1 text regions balloons letters loft start2 value_5) := hD
      refine lv_iconst (v := 1) hx hb dX4_readSeed_39 (by decide) ?_
      cases hf
      exact kR _ _ _ _ (Or.inr rfl) hP hD hS dX4_readSeed_40
    · have hf := o_t hc hf
      refine lv_iconst (v := 0) hx hb dX4_readSeed_29 (by decide) ?_
      cases hf
      exact kR _ _ _ _ (Or.inl rfl) hP hD hS dX4_readSeed_30
  · have hf := o_f hc hf
    refine lv_aload_n hx hb dX4_readSeed_7 rfl (lv_at hl 0 rfl) ?_
    refine lv_iconst (v := 2) hx hb dX4_readSeed_8 (by decide) ?_
    obtain ⟨r_8, code_9, hc, hf⟩ := ob2_some hf
    refine g_VZ (As := [.int 2]) (rest := []) (ws' := (w_X4_readSeed kc a0 a1 a2 a3 a4 a5 a6 a7 a8 a9 a10 start end_ place kind value code_9 loftRead startRead seedRead text regions balloons letters loft start2 seed)) ⟨hx, hb, hml, hown, hts⟩ hN hK hP hD hS hA (c_X4_fail l D kc N a0 a1 start end_ place kind value code loftRead startRead seedRead 2 r_8 code_9 hc) (cwV 1 hts gX4_readSeed_X4_fail rfl rfl rfl (by decide +kernel) ⟨Nat.le_of_ble_eq_true rfl, Nat.le_of_ble_eq_true rfl⟩) [0] [1, 2] [2, 0, 1] (by exact ⟨rfl, rfl, by decide, rfl⟩) 0 4 rfl rfl rfl rfl hl.1 rfl (Nat.le_of_ble_eq_true rfl) dX4_readSeed_9 ⟨Nat.le_refl _, Nat.le_refl _⟩ (fun H locs hz hP hD hS => ?_)
    have hz_10 := hz
    cases hf
    exact kR _ _ _ _ hz_10 hP hD hS dX4_readSeed_12
