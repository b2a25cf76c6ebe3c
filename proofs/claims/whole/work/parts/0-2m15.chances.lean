abbrev w_X8_power (kc : Nat → ClassId) : va_W := []
set_option maxHeartbeats 4000000 in
set_option maxRecDepth 100000 in
theorem c_X8_power (l : Launch) (D : va_G) (kc : Nat → ClassId) (N : Nat) (x0 : Int32) (x1 : Int32) (r_ : Int64) (hf : f_X8_power N x0 x1 = some r_) : ML l yX8_power wsX8_power ({ frames := 0, cells := 0, slots := 0, locals := 0 }) D kc [.int x0, .int x1] (w_X8_power kc ) (w_X8_power kc ) r_ := by
  refine gM_L (cc := cX8_power) (maxL := 5) (by decide) rfl (Nat.le_of_ble_eq_true rfl) ?_
  intro p e s m below meth c A ls Q hx hb hml hown hts hN hK hP hD hA hl kR
  have hS : va_S A s.heap s.heap [] := va_S.rf
  have hl : lv_has ls 5 [(0, .int x0), (1, .int x1)] := hl
  unfold f_X8_power at hf
  refine lv_lconst (v := 1) hx hb dX8_power_0 (by decide) ?_
  refine lv_lstore_n (lv' := [(2, .long 1), (0, .int x0), (1, .int x1)]) hx hb dX8_power_1 rfl hl (by decide) rfl (fun ls hl => ?_)
  refine lv_iconst (v := 0) hx hb dX8_power_2 (by decide) ?_
  refine lv_istore (lv' := [(4, .int 0), (2, .long 1), (0, .int x0), (1, .int x1)]) hx hb dX8_power_3 hl (by decide) rfl (fun ls hl => ?_)
  have L5 : ∀ (n : Nat) (y4_5 : Int32) (y2_5 : Int64) (y4_5o : Int32) (y2_5o : Int64), f_X8_power_5 N x0 x1 n y4_5 y2_5 = some (y4_5o, y2_5o) → (∀ (H : Heap) (locs : List Loc) (ls : Array Slot), va_P D vwCl (w_X8_power kc ) H → va_D A (w_X8_power kc ) → va_S A s.heap H locs → lv_has ls 5 [(0, .int x0), (1, .int x1), (2, .long y2_5o), (4, .int y4_5o)] → W p l e ({ frames := 0, cells := 0, slots := 0, locals := 0 }) s m (([.int x0, .int x1] : List Value).toArray) below meth c H locs 0 0 Q (F0 m 22 ls [])) → ∀ (H : Heap) (locs : List Loc) (ls : Array Slot), va_P D vwCl (w_X8_power kc ) H → va_D A (w_X8_power kc ) → va_S A s.heap H locs → lv_has ls 5 [(0, .int x0), (1, .int x1), (2, .long y2_5), (4, .int y4_5)] → W p l e ({ frames := 0, cells := 0, slots := 0, locals := 0 }) s m (([.int x0, .int x1] : List Value).toArray) below meth c H locs 0 0 Q (F0 m 5 ls []) := by
    intro n
    induction n with
    | zero => intro _ _ _ _ hf; rw [f_X8_power_5.eq_1] at hf; cases hf
    | succ n ih =>
      intro y4_5 y2_5 y4_5o y2_5o hf hk H locs ls hP hD hS hl
      rw [f_X8_power_5.eq_2] at hf
      refine lv_iload hx hb dX8_power_5 (lv_at hl 3 rfl) ?_
      refine lv_iload_n hx hb dX8_power_7 rfl (lv_at hl 1 rfl) ?_
      refine lv_icmp_ge (tgt := 22) hx hb dX8_power_8 (by decide) (fun hc => ?_) (fun hc => ?_)
      · have hf := o_t hc hf
        cases hf
        exact hk _ _ _ hP hD hS (lv_sub hl [0, 1, 2, 3] rfl)
      · have hf := o_f hc hf
        refine lv_lload_n hx hb dX8_power_11 rfl (lv_at hl 2 rfl) ?_
        refine lv_iload_n hx hb dX8_power_12 rfl (lv_at hl 0 rfl) ?_
        refine lv_i2l (v := (x0 : Int32).toInt64) hx hb dX8_power_13 rfl ?_
        refine lv_lmul hx hb dX8_power_14 ?_
        refine lv_lstore_n (lv' := [(2, .long (y2_5 * ((x0 : Int32).toInt64))), (0, .int x0), (1, .int x1), (4, .int y4_5)]) hx hb dX8_power_15 rfl hl (by decide) rfl (fun ls hl => ?_)
        refine lv_iinc (v := (y4_5 + 1)) (lv' := [(4, .int (y4_5 + 1)), (2, .long (y2_5 * ((x0 : Int32).toInt64))), (0, .int x0), (1, .int x1)]) hx hb dX8_power_16 hl (k := 3) rfl (by rfl) (by decide) rfl (fun ls hl => ?_)
        refine lv_goto (tgt := 5) hx hb dX8_power_19 (by decide) ?_
        exact ih _ _ _ _ hf hk _ _ _ hP hD hS (lv_sub hl [2, 3, 1, 0] rfl)
  obtain ⟨y4_5o, y2_5o, hc, hf⟩ := ob2_some hf
  refine L5 N _ _ _ _ hc (fun H locs ls hP hD hS hl => ?_) _ _ _ hP hD hS (lv_sub hl [2, 3, 1, 0] rfl)
  refine lv_lload_n hx hb dX8_power_22 rfl (lv_at hl 2 rfl) ?_
  cases hf
  exact kR _ _ _ _ hP hD hS dX8_power_23
abbrev w_X8_isForecast (kc : Nat → ClassId) : va_W := []
set_option maxHeartbeats 4000000 in
set_option maxRecDepth 100000 in
theorem c_X8_isForecast (l : Launch) (D : va_G) (kc : Nat → ClassId) (N : Nat) (x0 : Int32) (r_ : Int32) (hf : f_X8_isForecast N x0 = some r_) : MZ l yX8_isForecast wsX8_isForecast ({ frames := 0, cells := 0, slots := 0, locals := 0 }) D kc [.int x0] (w_X8_isForecast kc ) (w_X8_isForecast kc ) r_ := by
  refine gM_Z (cc := cX8_isForecast) (maxL := 1) (by decide) rfl (Nat.le_of_ble_eq_true rfl) ?_
  intro p e s m below meth c A ls Q hx hb hml hown hts hN hK hP hD hA hl kR
  have hS : va_S A s.heap s.heap [] := va_S.rf
  have hl : lv_has ls 1 [(0, .int x0)] := hl
  unfold f_X8_isForecast at hf
  refine lv_iload_n hx hb dX8_isForecast_0 rfl (lv_at hl 0 rfl) ?_
  refine lv_if_lt (tgt := 14) hx hb dX8_isForecast_1 (by decide) (fun hc => ?_) (fun hc => ?_)
  · have hf := o_t hc hf
    refine lv_iconst (v := 0) hx hb dX8_isForecast_14 (by decide) ?_
    cases hf
    exact kR _ _ _ _ (Or.inl rfl) hP hD hS dX8_isForecast_15
  · have hf := o_f hc hf
    refine lv_iload_n hx hb dX8_isForecast_4 rfl (lv_at hl 0 rfl) ?_
    refine lv_bipush (v := 8) hx hb dX8_isForecast_5 (by decide) ?_
    refine lv_icmp_gt (tgt := 14) hx hb dX8_isForecast_7 (by decide) (fun hc => ?_) (fun hc => ?_)
    · have hf := o_t hc hf
      refine lv_iconst (v := 0) hx hb dX8_isForecast_14 (by decide) ?_
      cases hf
      exact kR _ _ _ _ (Or.inl rfl) hP hD hS dX8_isForecast_15
    · have hf := o_f hc hf
      refine lv_iconst (v := 1) hx hb dX8_isForecast_10 (by decide) ?_
      refine lv_goto (tgt := 15) hx hb dX8_isForecast_11 (by decide) ?_
      cases hf
      exact kR _ _ _ _ (Or.inr rfl) hP hD hS dX8_isForecast_15
abbrev w_X8_isCrew (kc : Nat → ClassId) : va_W := []
set_option maxHeartbeats 4000000 in
set_option maxRecDepth 100000 in
theorem c_X8_isCrew (l : Launch) (D : va_G) (kc : Nat → ClassId) (N : Nat) (x0 : Int32) (r_ : Int32) (hf : f_X8_isCrew N x0 = some r_) : MZ l yX8_isCrew wsX8_isCrew ({ frames := 0, cells := 0, slots := 0, locals := 0 }) D kc [.int x0] (w_X8_isCrew kc ) (w_X8_isCrew kc ) r_ := by
  refine gM_Z (cc := cX8_isCrew) (maxL := 1) (by decide) rfl (Nat.le_of_ble_eq_true rfl) ?_
  intro p e s m below meth c A ls Q hx hb hml hown hts hN hK hP hD hA hl kR
  have hS : va_S A s.heap s.heap [] := va_S.rf
  have hl : lv_has ls 1 [(0, .int x0)] := hl
  unfold f_X8_isCrew at hf
  refine lv_iload_n hx hb dX8_isCrew_0 rfl (lv_at hl 0 rfl) ?_
  refine lv_if_lt (tgt := 13) hx hb dX8_isCrew_1 (by decide) (fun hc => ?_) (fun hc => ?_)
  · have hf := o_t hc hf
    refine lv_iconst (v := 0) hx hb dX8_isCrew_13 (by decide) ?_
    cases hf
    exact kR _ _ _ _ (Or.inl rfl) hP hD hS dX8_isCrew_14
  · have hf := o_f hc hf
    refine lv_iload_n hx hb dX8_isCrew_4 rfl (lv_at hl 0 rfl) ?_
    refine lv_iconst (v := 4) hx hb dX8_isCrew_5 (by decide) ?_
    refine lv_icmp_gt (tgt := 13) hx hb dX8_isCrew_6 (by decide) (fun hc => ?_) (fun hc => ?_)
    · have hf := o_t hc hf
      refine lv_iconst (v := 0) hx hb dX8_isCrew_13 (by decide) ?_
      cases hf
      exact kR _ _ _ _ (Or.inl rfl) hP hD hS dX8_isCrew_14
    · have hf := o_f hc hf
      refine lv_iconst (v := 1) hx hb dX8_isCrew_9 (by decide) ?_
      refine lv_goto (tgt := 14) hx hb dX8_isCrew_10 (by decide) ?_
      cases hf
      exact kR _ _ _ _ (Or.inr rfl) hP hD hS dX8_isCrew_14
abbrev w_X8_isLetterState (kc : Nat → ClassId) : va_W := []
set_option maxHeartbeats 4000000 in
set_option maxRecDepth 100000 in
theorem c_X8_isLetterState (l : Launch) (D : va_G) (kc : Nat → ClassId) (N : Nat) (x0 : Int32) (r_ : Int32) (hf : f_X8_isLetterState N x0 = some r_) : MZ l yX8_isLetterState wsX8_isLetterState ({ frames := 0, cells := 0, slots := 0, locals := 0 }) D kc [.int x0] (w_X8_isLetterState kc ) (w_X8_isLetterState kc ) r_ := by
  refine gM_Z (cc := cX8_isLetterState) (maxL := 1) (by decide) rfl (Nat.le_of_ble_eq_true rfl) ?_
  intro p e s m below meth c A ls Q hx hb hml hown hts hN hK hP hD hA hl kR
  have hS : va_S A s.heap s.heap [] := va_S.rf
  have hl : lv_has ls 1 [(0, .int x0)] := hl
  unfold f_X8_isLetterState at hf
  refine lv_iload_n hx hb dX8_isLetterState_0 rfl (lv_at hl 0 rfl) ?_
  refine lv_if_lt (tgt := 13) hx hb dX8_isLetterState_1 (by decide) (fun hc => ?_) (fun hc => ?_)
  · have hf := o_t hc hf
    refine lv_iconst (v := 0) hx hb dX8_isLetterState_13 (by decide) ?_
    cases hf
    exact kR _ _ _ _ (Or.inl rfl) hP hD hS dX8_isLetterState_14
  · have hf := o_f hc hf
    refine lv_iload_n hx hb dX8_isLetterState_4 rfl (lv_at hl 0 rfl) ?_
    refine lv_iconst (v := 4) hx hb dX8_isLetterState_5 (by decide) ?_
    refine lv_icmp_ge (tgt := 13) hx hb dX8_isLetterState_6 (by decide) (fun hc => ?_) (fun hc => ?_)
    · have hf := o_t hc hf
      refine lv_iconst (v := 0) hx hb dX8_isLetterState_13 (by decide) ?_
      cases hf
      exact kR _ _ _ _ (Or.inl rfl) hP hD hS dX8_isLetterState_14
    · have hf := o_f hc hf
      refine lv_iconst (v := 1) hx hb dX8_isLetterState_9 (by decide) ?_
      refine lv_goto (tgt := 14) hx hb dX8_isLetterState_10 (by decide) ?_
      cases hf
      exact kR _ _ _ _ (Or.inr rfl) hP hD hS dX8_isLetterState_14
abbrev w_X8_isSlot (kc : Nat → ClassId) : va_W := []
set_option maxHeartbeats 4000000 in
set_option maxRecDepth 100000 in
theorem c_X8_isSlot (l : Launch) (D : va_G) (kc : Nat → ClassId) (N : Nat) (x0 : Int32) (r_ : Int32) (hf : f_X8_isSlot N x0 = some r_) : MZ l yX8_isSlot wsX8_isSlot ({ frames := 0, cells := 0, slots := 0, locals := 0 }) D kc [.int x0] (w_X8_isSlot kc ) (w_X8_isSlot kc ) r_ := by
  refine gM_Z (cc := cX8_isSlot) (maxL := 1) (by decide) rfl (Nat.le_of_ble_eq_true rfl) ?_
  intro p e s m below meth c A ls Q hx hb hml hown hts hN hK hP hD hA hl kR
  have hS : va_S A s.heap s.heap [] := va_S.rf
  have hl : lv_has ls 1 [(0, .int x0)] := hl
  unfold f_X8_isSlot at hf
  refine lv_iload_n hx hb dX8_isSlot_0 rfl (lv_at hl 0 rfl) ?_
  refine lv_if_lt (tgt := 13) hx hb dX8_isSlot_1 (by decide) (fun hc => ?_) (fun hc => ?_)
  · have hf := o_t hc hf
    refine lv_iconst (v := 0) hx hb dX8_isSlot_13 (by decide) ?_
    cases hf
    exact kR _ _ _ _ (Or.inl rfl) hP hD hS dX8_isSlot_14
  · have hf := o_f hc hf
    refine lv_iload_n hx hb dX8_isSlot_4 rfl (lv_at hl 0 rfl) ?_
    refine lv_iconst (v := 2) hx hb dX8_isSlot_5 (by decide) ?_
    refine lv_icmp_ge (tgt := 13) hx hb dX8_isSlot_6 (by decide) (fun hc => ?_) (fun hc => ?_)
    · have hf := o_t hc hf
      refine lv_iconst (v := 0) hx hb dX8_isSlot_13 (by decide) ?_
      cases hf
      exact kR _ _ _ _ (Or.inl rfl) hP hD hS dX8_isSlot_14
    · have hf := o_f hc hf
      refine lv_iconst (v := 1) hx hb dX8_isSlot_9 (by decide) ?_
      refine lv_goto (tgt := 14) hx hb dX8_isSlot_10 (by decide) ?_
      cases hf
      exact kR _ _ _ _ (Or.inr rfl) hP hD hS dX8_isSlot_14
abbrev w_X0_begin (kc : Nat → ClassId) (a0 a1 a2 : Nat) (now : Nat → Int64) : va_W := [(a0, .inr (0, [.ref a1, .ref a2])), (a1, .inl (kc 2, 6, .inr (.inl now)))]
set_option maxHeartbeats 4000000 in
set_option maxRecDepth 100000 in
theorem c_X0_begin (l : Launch) (D : va_G) (kc : Nat → ClassId) (N : Nat) (a0 a1 a2 : Nat) (now : Nat → Int64) (x1 : Int32) (now' : Nat → Int64) (hf : f_X0_begin N now x1 = some now') : MV l yX0_begin wsX0_begin ({ frames := 0, cells := 0, slots := 0, locals := 0 }) D kc [.ref a0, .int x1] (w_X0_begin kc a0 a1 a2 now) (w_X0_begin kc a0 a1 a2 now') := by
  refine gM_V (cc := cX0_begin) (maxL := 3) (by decide) rfl (Nat.le_of_ble_eq_true rfl) ?_
  intro p e s m below meth c A ls Q hx hb hml hown hts hN hK hP hD hA hl kR
  have hS : va_S A s.heap s.heap [] := va_S.rf
  have hl : lv_has ls 3 [(0, .ref a0), (1, .int x1)] := hl
  have in_X0 : ∀ w ∈ u_ws RX0 TX0 2, w ∈ wsX0_begin := by decide +kernel
  have lk_9 := hts (.fieldLink RX0 9 "BalloonMail$Chances" "now" "[J") (by decide +kernel)
  unfold f_X0_begin at hf
  refine lv_iconst (v := 0) hx hb dX0_begin_0 (by decide) ?_
  refine lv_istore_n (lv' := [(2, .int 0), (0, .ref a0), (1, .int x1)]) hx hb dX0_begin_1 rfl hl (by decide) rfl (fun ls hl => ?_)
  have L2 : ∀ (n : Nat) (y2_2 : Int32) (now_2 : Nat → Int64) (y2_2o : Int32) (now_2o : Nat → Int64), f_X0_begin_2 N x1 n y2_2 now_2 = some (y2_2o, now_2o) → (∀ (H : Heap) (locs : List Loc) (ls : Array Slot), va_P D vwCl (w_X0_begin kc a0 a1 a2 now_2o) H → va_D A (w_X0_begin kc a0 a1 a2 now_2o) → va_S A s.heap H locs → lv_has ls 3 [(0, .ref a0), (1, .int x1), (2, .int y2_2o)] → W p l e ({ frames := 0, cells := 0, slots := 0, locals := 0 }) s m (([.ref a0, .int x1] : List Value).toArray) below meth c H locs 0 0 Q (F0 m 33 ls [])) → ∀ (H : Heap) (locs : List Loc) (ls : Array Slot), va_P D vwCl (w_X0_begin kc a0 a1 a2 now_2) H → va_D A (w_X0_begin kc a0 a1 a2 now_2) → va_S A s.heap H locs → lv_has ls 3 [(0, .ref a0), (1, .int x1), (2, .int y2_2)] → W p l e ({ frames := 0, cells := 0, slots := 0, locals := 0 }) s m (([.ref a0, .int x1] : List Value).toArray) below meth c H locs 0 0 Q (F0 m 2 ls []) := by
    intro n
    induction n with
    | zero => intro _ _ _ _ hf; rw [f_X0_begin_2.eq_1] at hf; cases hf
    | succ n ih =>
      intro y2_2 now_2 y2_2o now_2o hf hk H locs ls hP hD hS hl
      rw [f_X0_begin_2.eq_2] at hf
      refine lv_iload_n hx hb dX0_begin_2 rfl (lv_at hl 2 rfl) ?_
      refine lv_aload_n hx hb dX0_begin_3 rfl (lv_at hl 0 rfl) ?_
      refine va_get (D := D) (ci := 0) (v := .ref a1) (C := RX0) (T := TX0) (N := 2) hx hb hts in_X0 hown hK hP 0 rfl rfl 0 (by decide) lk_9 (fun _ h9 => h9) rfl dX0_begin_4 ?_
      refine va_alen hx hb hK hP 1 2 rfl rfl (v := 6) (by rfl) dX0_begin_7 ?_
      refine lv_icmp_ge (tgt := 33) hx hb dX0_begin_8 (by decide) (fun hc => ?_) (fun hc => ?_)
      · have hf := o_t hc hf
        cases hf
        exact hk _ _ _ hP hD hS (lv_sub hl [0, 1, 2] rfl)
      · have hf := o_f hc hf
        refine lv_aload_n hx hb dX0_begin_11 rfl (lv_at hl 0 rfl) ?_
        refine va_get (D := D) (ci := 0) (v := .ref a1) (C := RX0) (T := TX0) (N := 2) hx hb hts in_X0 hown hK hP 0 rfl rfl 0 (by decide) lk_9 (fun _ h9 => h9) rfl dX0_begin_12 ?_
        refine lv_iload_n hx hb dX0_begin_15 rfl (lv_at hl 2 rfl) ?_
        refine lv_iload_n hx hb dX0_begin_16 rfl (lv_at hl 2 rfl) ?_
        refine lv_iload_n hx hb dX0_begin_17 rfl (lv_at hl 1 rfl) ?_
        refine lv_icmp_ne (tgt := 25) hx hb dX0_begin_18 (by decide) (fun hc => ?_) (fun hc => ?_)
        · have hf := o_f hc hf
          refine lv_lconst (v := 0) hx hb dX0_begin_25 (by decide) ?_
          obtain ⟨hi, hf⟩ := gIx_some hf
          refine va_last hx hb hK hP hD hS 1 2 rfl rfl hi dX0_begin_26 (fun H locs hP hD hS => ?_)
          have hP : va_P D vwCl (w_X0_begin kc a0 a1 a2 (vp_updL now_2 (y2_2 : Int32).toNatClampNeg 0)) H := hP
          have hD : va_D A (w_X0_begin kc a0 a1 a2 (vp_updL now_2 (y2_2 : Int32).toNatClampNeg 0)) := hD
          refine lv_iinc (v := (y2_2 + 1)) (lv' := [(2, .int (y2_2 + 1)), (0, .ref a0), (1, .int x1)]) hx hb dX0_begin_27 hl (k := 2) rfl (by rfl) (by decide) rfl (fun ls hl => ?_)
          refine lv_goto (tgt := 2) hx hb dX0_begin_30 (by decide) ?_
          exact ih _ _ _ _ hf hk _ _ _ hP hD hS (lv_sub hl [1, 2, 0] rfl)
        · have hf := o_t hc hf
          refine lv_lconst (v := 1) hx hb dX0_begin_21 (by decide) ?_
          refine lv_goto (tgt := 26) hx hb dX0_begin_22 (by decide) ?_
          obtain ⟨hi, hf⟩ := gIx_some hf
          refine va_last hx hb hK hP hD hS 1 2 rfl rfl hi dX0_begin_26 (fun H locs hP hD hS => ?_)
          have hP : va_P D vwCl (w_X0_begin kc a0 a1 a2 (vp_updL now_2 (y2_2 : Int32).toNatClampNeg 1)) H := hP
          have hD : va_D A (w_X0_begin kc a0 a1 a2 (vp_updL now_2 (y2_2 : Int32).toNatClampNeg 1)) := hD
          refine lv_iinc (v := (y2_2 + 1)) (lv' := [(2, .int (y2_2 + 1)), (0, .ref a0), (1, .int x1)]) hx hb dX0_begin_27 hl (k := 2) rfl (by rfl) (by decide) rfl (fun ls hl => ?_)
          refine lv_goto (tgt := 2) hx hb dX0_begin_30 (by decide) ?_
          exact ih _ _ _ _ hf hk _ _ _ hP hD hS (lv_sub hl [1, 2, 0] rfl)
  obtain ⟨y2_2o, now_2o, hc, hf⟩ := ob2_some hf
  refine L2 N _ _ _ _ hc (fun H locs ls hP hD hS hl => ?_) _ _ _ hP hD hS (lv_sub hl [1, 2, 0] rfl)
  cases hf
  exact kR _ _ _ _ hP hD hS dX0_begin_33
abbrev w_X0_shun (kc : Nat → ClassId) (a0 a1 a2 : Nat) (now : Nat → Int64) : va_W := [(a0, .inr (0, [.ref a1, .ref a2])), (a1, .inl (kc 2, 6, .inr (.inl now)))]
set_option maxHeartbeats 4000000 in
set_option maxRecDepth 100000 in
theorem c_X0_shun (l : Launch) (D : va_G) (kc : Nat → ClassId) (N : Nat) (a0 a1 a2 : Nat) (now : Nat → Int64) (x1 : Int32) (now' : Nat → Int64) (hf : f_X0_shun N now x1 = some now') : MV l yX0_shun wsX0_shun ({ frames := 0, cells := 0, slots := 0, locals := 0 }) D kc [.ref a0, .int x1] (w_X0_shun kc a0 a1 a2 now) (w_X0_shun kc a0 a1 a2 now') := by
  refine gM_V (cc := cX0_shun) (maxL := 2) (by decide) rfl (Nat.le_of_ble_eq_true rfl) ?_
  intro p e s m below meth c A ls Q hx hb hml hown hts hN hK hP hD hA hl kR
  have hS : va_S A s.heap s.heap [] := va_S.rf
  have hl : lv_has ls 2 [(0, .ref a0), (1, .int x1)] := hl
  have in_X0 : ∀ w ∈ u_ws RX0 TX0 2, w ∈ wsX0_shun := by decide +kernel
  have lk_9 := hts (.fieldLink RX0 9 "BalloonMail$Chances" "now" "[J") (by decide +kernel)
  unfold f_X0_shun at hf
  refine lv_iload_n hx hb dX0_shun_0 rfl (lv_at hl 1 rfl) ?_
  refine lv_if_lt (tgt := 20) hx hb dX0_shun_1 (by decide) (fun hc => ?_) (fun hc => ?_)
  · have hf := o_t hc hf
    cases hf
    exact kR _ _ _ _ hP hD hS dX0_shun_20
  · have hf := o_f hc hf
    refine lv_iload_n hx hb dX0_shun_4 rfl (lv_at hl 1 rfl) ?_
    refine lv_aload_n hx hb dX0_shun_5 rfl (lv_at hl 0 rfl) ?_
    refine va_get (D := D) (ci := 0) (v := .ref a1) (C := RX0) (T := TX0) (N := 2) hx hb hts in_X0 hown hK hP 0 rfl rfl 0 (by decide) lk_9 (fun _ h9 => h9) rfl dX0_shun_6 ?_
    refine va_alen hx hb hK hP 1 2 rfl rfl (v := 6) (by rfl) dX0_shun_9 ?_
    refine lv_icmp_ge (tgt := 20) hx hb dX0_shun_10 (by decide) (fun hc => ?_) (fun hc => ?_)
    · have hf := o_t hc hf
      cases hf
      exact kR _ _ _ _ hP hD hS dX0_shun_20
    · have hf := o_f hc hf
      refine lv_aload_n hx hb dX0_shun_13 rfl (lv_at hl 0 rfl) ?_
      refine va_get (D := D) (ci := 0) (v := .ref a1) (C := RX0) (T := TX0) (N := 2) hx hb hts in_X0 hown hK hP 0 rfl rfl 0 (by decide) lk_9 (fun _ h9 => h9) rfl dX0_shun_14 ?_
      refine lv_iload_n hx hb dX0_shun_17 rfl (lv_at hl 1 rfl) ?_
      refine lv_lconst (v := 0) hx hb dX0_shun_18 (by decide) ?_
      obtain ⟨hi, hf⟩ := gIx_some hf
      refine va_last hx hb hK hP hD hS 1 2 rfl rfl hi dX0_shun_19 (fun H locs hP hD hS => ?_)
      have hP : va_P D vwCl (w_X0_shun kc a0 a1 a2 (vp_updL now (x1 : Int32).toNatClampNeg 0)) H := hP
      have hD : va_D A (w_X0_shun kc a0 a1 a2 (vp_updL now (x1 : Int32).toNatClampNeg 0)) := hD
      cases hf
      exact kR _ _ _ _ hP hD hS dX0_shun_20
abbrev w_X0_passDay (kc : Nat → ClassId) (a0 a1 a2 a3 a4 a5 a6 a7 a8 a9 : Nat) (then_ : Nat → Int64) (count : Int32) (turnCount : Int32) (now : Nat → Int64) (follow : Nat → Int32) : va_W := [(a0, .inr (0, [.ref a1, .ref a2])), (a2, .inl (kc 2, 6, .inr (.inl then_))), (a3, .inr (7, [.int count, .int turnCount, .ref a4, .ref a5, .ref a6, .ref a7, .ref a8, .ref a9])), (a1, .inl (kc 2, 6, .inr (.inl now))), (a6, .inl (kc 1, 36, .inl follow))]
set_option maxHeartbeats 4000000 in
set_option maxRecDepth 100000 in
theorem c_X0_passDay (l : Launch) (D : va_G) (kc : Nat → ClassId) (N : Nat) (a0 a1 a2 a3 a4 a5 a6 a7 a8 a9 : Nat) (then_ : Nat → Int64) (count : Int32) (turnCount : Int32) (now : Nat → Int64) (follow : Nat → Int32) (then_' : Nat → Int64) (now' : Nat → Int64) (hf : f_X0_passDay N then_ count now follow = some (then_', now')) : MV l yX0_passDay wsX0_passDay ({ frames := 1, cells := 0, slots := 0, locals := 40 }) D kc [.ref a0, .ref a3] (w_X0_passDay kc a0 a1 a2 a3 a4 a5 a6 a7 a8 a9 then_ count turnCount now follow) (w_X0_passDay kc a0 a1 a2 a3 a4 a5 a6 a7 a8 a9 then_' count turnCount now' follow) := by
  refine gM_V (cc := cX0_passDay) (maxL := 6) (by decide) rfl (Nat.le_of_ble_eq_true rfl) ?_
  intro p e s m below meth c A ls Q hx hb hml hown hts hN hK hP hD hA hl kR
  have hS : va_S A s.heap s.heap [] := va_S.rf
  have hl : lv_has ls 6 [(0, .ref a0), (1, .ref a3)] := hl
  have in_X0 : ∀ w ∈ u_ws RX0 TX0 2, w ∈ wsX0_passDay := by decide +kernel
  have lk_15 := hts (.fieldLink RX0 15 "BalloonMail$Chances" "then" "[J") (by decide +kernel)
  have in_X7 : ∀ w ∈ u_ws RX7 TX7 8, w ∈ wsX0_passDay := by decide +kernel
  have lk_29 := hts (.fieldLink RX0 29 "BalloonMail$Winds" "count" "I") (by decide +kernel)
  have lk_9 := hts (.fieldLink RX0 9 "BalloonMail$Chances" "now" "[J") (by decide +kernel)
  unfold f_X0_passDay at hf
  refine lv_iconst (v := 0) hx hb dX0_passDay_0 (by decide) ?_
  refine lv_istore_n (lv' := [(2, .int 0), (0, .ref a0), (1, .ref a3)]) hx hb dX0_passDay_1 rfl hl (by decide) rfl (fun ls hl => ?_)
  have L2 : ∀ (n : Nat) (y2_2 : Int32) (then__2 : Nat → Int64) (y2_2o : Int32) (then__2o : Nat → Int64), f_X0_passDay_2 N count now follow n y2_2 then__2 = some (y2_2o, then__2o) → (∀ (H : Heap) (locs : List Loc) (ls : Array Slot), va_P D vwCl (w_X0_passDay kc a0 a1 a2 a3 a4 a5 a6 a7 a8 a9 then__2o count turnCount now follow) H → va_D A (w_X0_passDay kc a0 a1 a2 a3 a4 a5 a6 a7 a8 a9 then__2o count turnCount now follow) → va_S A s.heap H locs → lv_has ls 6 [(0, .ref a0), (1, .ref a3), (2, .int y2_2o)] → W p l e ({ frames := 1, cells := 0, slots := 0, locals := 40 }) s m (([.ref a0, .ref a3] : List Value).toArray) below meth c H locs 0 0 Q (F0 m 73 ls [])) → ∀ (H : Heap) (locs : List Loc) (ls : Array Slot), va_P D vwCl (w_X0_passDay kc a0 a1 a2 a3 a4 a5 a6 a7 a8 a9 then__2 count turnCount now follow) H → va_D A (w_X0_passDay kc a0 a1 a2 a3 a4 a5 a6 a7 a8 a9 then__2 count turnCount now follow) → va_S A s.heap H locs → lv_has ls 6 [(0, .ref a0), (1, .ref a3), (2, .int y2_2)] → W p l e ({ frames := 1, cells := 0, slots := 0, locals := 40 }) s m (([.ref a0, .ref a3] : List Value).toArray) below meth c H locs 0 0 Q (F0 m 2 ls []) := by
    intro n
    induction n with
    | zero => intro _ _ _ _ hf; rw [f_X0_passDay_2.eq_1] at hf; cases hf
    | succ n ih =>
      intro y2_2 then__2 y2_2o then__2o hf hk H locs ls hP hD hS hl
      rw [f_X0_passDay_2.eq_2] at hf
      refine lv_iload_n hx hb dX0_passDay_2 rfl (lv_at hl 2 rfl) ?_
      refine lv_aload_n hx hb dX0_passDay_3 rfl (lv_at hl 0 rfl) ?_
      refine va_get (D := D) (ci := 0) (v := .ref a2) (C := RX0) (T := TX0) (N := 2) hx hb hts in_X0 hown hK hP 0 rfl rfl 1 (by decide) lk_15 (fun _ h9 => h9) rfl dX0_passDay_4 ?_
      refine va_alen hx hb hK hP 1 2 rfl rfl (v := 6) (by rfl) dX0_passDay_7 ?_
      refine lv_icmp_ge (tgt := 73) hx hb dX0_passDay_8 (by decide) (fun hc => ?_) (fun hc => ?_)
      · have hf := o_t hc hf
        cases hf
        exact hk _ _ _ hP hD hS (lv_sub hl [0, 1, 2] rfl)
      · have hf := o_f hc hf
        refine lv_lconst (v := 0) hx hb dX0_passDay_11 (by decide) ?_
        refine lv_lstore_n (lv' := [(3, .long 0), (0, .ref a0), (1, .ref a3), (2, .int y2_2)]) hx hb dX0_passDay_12 rfl hl (by decide) rfl (fun ls hl => ?_)
        refine lv_iconst (v := 0) hx hb dX0_passDay_13 (by decide) ?_
        refine lv_istore (lv' := [(5, .int 0), (3, .long 0), (0, .ref a0), (1, .ref a3), (2, .int y2_2)]) hx hb dX0_passDay_14 hl (by decide) rfl (fun ls hl => ?_)
        have L16 : ∀ (n : Nat) (y5_16 : Int32) (y3_16 : Int64) (y5_16o : Int32) (y3_16o : Int64), f_X0_passDay_16 N count now follow y2_2 n y5_16 y3_16 = some (y5_16o, y3_16o) → (∀ (H : Heap) (locs : List Loc) (ls : Array Slot), va_P D vwCl (w_X0_passDay kc a0 a1 a2 a3 a4 a5 a6 a7 a8 a9 then__2 count turnCount now follow) H → va_D A (w_X0_passDay kc a0 a1 a2 a3 a4 a5 a6 a7 a8 a9 then__2 count turnCount now follow) → va_S A s.heap H locs → lv_has ls 6 [(0, .ref a0), (1, .ref a3), (2, .int y2_2), (3, .long y3_16o), (5, .int y5_16o)] → W p l e ({ frames := 1, cells := 0, slots := 0, locals := 40 }) s m (([.ref a0, .ref a3] : List Value).toArray) below meth c H locs 0 0 Q (F0 m 60 ls [])) → ∀ (H : Heap) (locs : List Loc) (ls : Array Slot), va_P D vwCl (w_X0_passDay kc a0 a1 a2 a3 a4 a5 a6 a7 a8 a9 then__2 count turnCount now follow) H → va_D A (w_X0_passDay kc a0 a1 a2 a3 a4 a5 a6 a7 a8 a9 then__2 count turnCount now follow) → va_S A s.heap H locs → lv_has ls 6 [(0, .ref a0), (1, .ref a3), (2, .int y2_2), (3, .long y3_16), (5, .int y5_16)] → W p l e ({ frames := 1, cells := 0, slots := 0, locals := 40 }) s m (([.ref a0, .ref a3] : List Value).toArray) below meth c H locs 0 0 Q (F0 m 16 ls []) := by
          intro n
          induction n with
          | zero => intro _ _ _ _ hf; rw [f_X0_passDay_16.eq_1] at hf; cases hf
          | succ n ih =>
            intro y5_16 y3_16 y5_16o y3_16o hf hk H locs ls hP hD hS hl
            rw [f_X0_passDay_16.eq_2] at hf
            refine lv_iload hx hb dX0_passDay_16 (lv_at hl 4 rfl) ?_
            refine lv_aload_n hx hb dX0_passDay_18 rfl (lv_at hl 1 rfl) ?_
            refine va_get (D := D) (ci := 7) (v := .int count) (C := RX7) (T := TX7) (N := 8) hx hb hts in_X7 hown hK hP 2 rfl rfl 0 (by decide) lk_29 (fun _ h9 => h9) rfl dX0_passDay_19 ?_
            refine lv_icmp_ge (tgt := 60) hx hb dX0_passDay_22 (by decide) (fun hc => ?_) (fun hc => ?_)
            · have hf := o_t hc hf
              cases hf
              exact hk _ _ _ hP hD hS (lv_sub hl [0, 1, 2, 3, 4] rfl)
            · have hf := o_f hc hf
              refine lv_iload hx hb dX0_passDay_25 (lv_at hl 4 rfl) ?_
              refine lv_aload_n hx hb dX0_passDay_27 rfl (lv_at hl 0 rfl) ?_
              refine va_get (D := D) (ci := 0) (v := .ref a1) (C := RX0) (T := TX0) (N := 2) hx hb hts in_X0 hown hK hP 0 rfl rfl 0 (by decide) lk_9 (fun _ h9 => h9) rfl dX0_passDay_28 ?_
              refine va_alen hx hb hK hP 3 2 rfl rfl (v := 6) (by rfl) dX0_passDay_31 ?_
              refine lv_icmp_ge (tgt := 60) hx hb dX0_passDay_32 (by decide) (fun hc => ?_) (fun hc => ?_)
              · have hf := o_t hc hf
                cases hf
                exact hk _ _ _ hP hD hS (lv_sub hl [0, 1, 2, 3, 4] rfl)
              · have hf := o_f hc hf
                refine lv_lload_n hx hb dX0_passDay_35 rfl (lv_at hl 3 rfl) ?_
                refine lv_aload_n hx hb dX0_passDay_36 rfl (lv_at hl 0 rfl) ?_
                refine va_get (D := D) (ci := 0) (v := .ref a1) (C := RX0) (T := TX0) (N := 2) hx hb hts in_X0 hown hK hP 0 rfl rfl 0 (by decide) lk_9 (fun _ h9 => h9) rfl dX0_passDay_37 ?_
                refine lv_iload hx hb dX0_passDay_40 (lv_at hl 4 rfl) ?_
                obtain ⟨hi, hf⟩ := gIx_some hf
                refine va_lald hx hb hK hP 3 2 rfl rfl hi dX0_passDay_42 ?_
                refine lv_aload_n hx hb dX0_passDay_43 rfl (lv_at hl 1 rfl) ?_
                refine lv_iload hx hb dX0_passDay_44 (lv_at hl 4 rfl) ?_
                refine lv_iload_n hx hb dX0_passDay_46 rfl (lv_at hl 2 rfl) ?_
                obtain ⟨r_1, hc, hf⟩ := ob1_some hf
                refine g_VI (As := [.int y5_16, .int y2_2]) (rest := [.long (now (y5_16 : Int32).toNatClampNeg), .long y3_16]) (ws' := (w_X0_passDay kc a0 a1 a2 a3 a4 a5 a6 a7 a8 a9 then__2 count turnCount now follow)) ⟨hx, hb, hml, hown, hts⟩ hN hK hP hD hS hA (c_X7_followTenths l D kc N a3 a4 a5 a6 a7 a8 a9 count turnCount follow y5_16 y2_2 r_1 hc) (cwV 2 hts gX0_passDay_X7_followTenths rfl rfl rfl (by decide +kernel) ⟨Nat.le_of_ble_eq_true rfl, Nat.le_of_ble_eq_true rfl⟩) [2, 4] [0, 1, 3] [0, 1, 3, 2, 4] (by exact ⟨rfl, rfl, by decide, rfl⟩) 2 7 rfl rfl rfl rfl hl.1 rfl (Nat.le_of_ble_eq_true rfl) dX0_passDay_47 ⟨Nat.le_refl _, Nat.le_refl _⟩ (fun H locs hP hD hS => ?_)
                refine lv_i2l (v := (r_1 : Int32).toInt64) hx hb dX0_passDay_50 rfl ?_
                refine lv_lmul hx hb dX0_passDay_51 ?_
                refine lv_ladd hx hb dX0_passDay_52 ?_
                refine lv_lstore_n (lv' := [(3, .long (y3_16 + ((now (y5_16 : Int32).toNatClampNeg) * ((r_1 : Int32).toInt64)))), (0, .ref a0), (1, .ref a3), (2, .int y2_2), (5, .int y5_16)]) hx hb dX0_passDay_53 rfl hl (by decide) rfl (fun ls hl => ?_)
                refine lv_iinc (v := (y5_16 + 1)) (lv' := [(5, .int (y5_16 + 1)), (3, .long (y3_16 + ((now (y5_16 : Int32).toNatClampNeg) * ((r_1 : Int32).toInt64)))), (0, .ref a0), (1, .ref a3), (2, .int y2_2)]) hx hb dX0_passDay_54 hl (k := 4) rfl (by rfl) (by decide) rfl (fun ls hl => ?_)
                refine lv_goto (tgt := 16) hx hb dX0_passDay_57 (by decide) ?_
                exact ih _ _ _ _ hf hk _ _ _ hP hD hS (lv_sub hl [2, 3, 4, 1, 0] rfl)
        obtain ⟨y5_16o, y3_16o, hc, hf⟩ := ob2_some hf
        refine L16 N _ _ _ _ hc (fun H locs ls hP hD hS hl => ?_) _ _ _ hP hD hS (lv_sub hl [2, 3, 4, 1, 0] rfl)
        refine lv_aload_n hx hb dX0_passDay_60 rfl (lv_at hl 0 rfl) ?_
        refine va_get (D := D) (ci := 0) (v := .ref a2) (C := RX0) (T := TX0) (N := 2) hx hb hts in_X0 hown hK hP 0 rfl rfl 1 (by decide) lk_15 (fun _ h9 => h9) rfl dX0_passDay_61 ?_
        refine lv_iload_n hx hb dX0_passDay_64 rfl (lv_at hl 2 rfl) ?_
        refine lv_lload_n hx hb dX0_passDay_65 rfl (lv_at hl 3 rfl) ?_
        obtain ⟨hi, hf⟩ := gIx_some hf
        refine va_last hx hb hK hP hD hS 1 2 rfl rfl hi dX0_passDay_66 (fun H locs hP hD hS => ?_)
        have hP : va_P D vwCl (w_X0_passDay kc a0 a1 a2 a3 a4 a5 a6 a7 a8 a9 (vp_updL then__2 (y2_2 : Int32).toNatClampNeg y3_16o) count turnCount now follow) H := hP
        have hD : va_D A (w_X0_passDay kc a0 a1 a2 a3 a4 a5 a6 a7 a8 a9 (vp_updL then__2 (y2_2 : Int32).toNatClampNeg y3_16o) count turnCount now follow) := hD
        refine lv_iinc (v := (y2_2 + 1)) (lv' := [(2, .int (y2_2 + 1)), (0, .ref a0), (1, .ref a3), (3, .long y3_16o), (5, .int y5_16o)]) hx hb dX0_passDay_67 hl (k := 2) rfl (by rfl) (by decide) rfl (fun ls hl => ?_)
        refine lv_goto (tgt := 2) hx hb dX0_passDay_70 (by decide) ?_
        exact ih _ _ _ _ hf hk _ _ _ hP hD hS (lv_sub hl [1, 2, 0] rfl)
  obtain ⟨y2_2o, then__2o, hc, hf⟩ := ob2_some hf
  refine L2 N _ _ _ _ hc (fun H locs ls hP hD hS hl => ?_) _ _ _ hP hD hS (lv_sub hl [1, 2, 0] rfl)
  refine lv_aload_n hx hb dX0_passDay_73 rfl (lv_at hl 0 rfl) ?_
  refine va_get (D := D) (ci := 0) (v := .ref a2) (C := RX0) (T := TX0) (N := 2) hx hb hts in_X0 hown hK hP 0 rfl rfl 1 (by decide) lk_15 (fun _ h9 => h9) rfl dX0_passDay_74 ?_
  refine lv_iconst (v := 0) hx hb dX0_passDay_77 (by decide) ?_
  refine lv_aload_n hx hb dX0_passDay_78 rfl (lv_at hl 0 rfl) ?_
  refine va_get (D := D) (ci := 0) (v := .ref a1) (C := RX0) (T := TX0) (N := 2) hx hb hts in_X0 hown hK hP 0 rfl rfl 0 (by decide) lk_9 (fun _ h9 => h9) rfl dX0_passDay_79 ?_
  refine lv_iconst (v := 0) hx hb dX0_passDay_82 (by decide) ?_
  refine lv_aload_n hx hb dX0_passDay_83 rfl (lv_at hl 0 rfl) ?_
  refine va_get (D := D) (ci := 0) (v := .ref a1) (C := RX0) (T := TX0) (N := 2) hx hb hts in_X0 hown hK hP 0 rfl rfl 0 (by decide) lk_9 (fun _ h9 => h9) rfl dX0_passDay_84 ?_
  refine va_alen hx hb hK hP 3 2 rfl rfl (v := 6) (by rfl) dX0_passDay_87 ?_
  refine va_copyl hx hb (hml.trans hl.1.symm) hown (hts (.methodLink RX0 39 arraycopyName) (by decide +kernel)) (hts (.native arraycopyName) (by decide +kernel)) (hts (.static arraycopyName) (by decide +kernel)) (hts (.initialized "java/lang/System") (by decide +kernel)) hK hP hD hS 1 3 2 2 rfl rfl rfl rfl rfl (by decide) (by decide) (by decide) (by decide) (by decide) (fun _ _ => rfl) (Nat.le_of_ble_eq_true rfl) (Nat.le_of_ble_eq_true rfl) dX0_passDay_88 (fun H locs hP hD hS => ?_)
  have hP : va_P D vwCl (w_X0_passDay kc a0 a1 a2 a3 a4 a5 a6 a7 a8 a9 then__2o count turnCount (va_cpy then__2o now 0 0 6) follow) H := hP
  have hD : va_D A (w_X0_passDay kc a0 a1 a2 a3 a4 a5 a6 a7 a8 a9 then__2o count turnCount (va_cpy then__2o now 0 0 6) follow) := hD
  cases hf
  exact kR _ _ _ _ hP hD hS dX0_passDay_91
abbrev w_X0_lookAhead (kc : Nat → ClassId) (a0 a1 a2 a3 a4 a5 a6 a7 a8 a9 : Nat) (now : Nat → Int64) (then_ : Nat → Int64) (count : Int32) (turnCount : Int32) (follow : Nat → Int32) : va_W := [(a0, .inr (0, [.ref a1, .ref a2])), (a1, .inl (kc 2, 6, .inr (.inl now))), (a2, .inl (kc 2, 6, .inr (.inl then_))), (a3, .inr (7, [.int count, .int turnCount, .ref a4, .ref a5, .ref a6, .ref a7, .ref a8, .ref a9])), (a6, .inl (kc 1, 36, .inl follow))]
set_option maxHeartbeats 4000000 in
set_option maxRecDepth 100000 in
theorem c_X0_lookAhead (l : Launch) (D : va_G) (kc : Nat → ClassId) (N : Nat) (a0 a1 a2 a3 a4 a5 a6 a7 a8 a9 : Nat) (now : Nat → Int64) (then_ : Nat → Int64) (count : Int32) (turnCount : Int32) (follow : Nat → Int32) (x2 : Int32) (x3 : Int32) (x4 : Int32) (now' : Nat → Int64) (then_' : Nat → Int64) (hf : f_X0_lookAhead N now then_ count follow x2 x3 x4 = some (now', then_')) : MV l yX0_lookAhead wsX0_lookAhead ({ frames := 2, cells := 0, slots := 0, locals := 65 }) D kc [.ref a0, .ref a3, .int x2, .int x3, .int x4] (w_X0_lookAhead kc a0 a1 a2 a3 a4 a5 a6 a7 a8 a9 now then_ count turnCount follow) (w_X0_lookAhead kc a0 a1 a2 a3 a4 a5 a6 a7 a8 a9 now' then_' count turnCount follow) := by
  refine gM_V (cc := cX0_lookAhead) (maxL := 6) (by decide) rfl (Nat.le_of_ble_eq_true rfl) ?_
  intro p e s m below meth c A ls Q hx hb hml hown hts hN hK hP hD hA hl kR
  have hS : va_S A s.heap s.heap [] := va_S.rf
  have hl : lv_has ls 6 [(0, .ref a0), (1, .ref a3), (2, .int x2), (3, .int x3), (4, .int x4)] := hl
  unfold f_X0_lookAhead at hf
  refine lv_aload_n hx hb dX0_lookAhead_0 rfl (lv_at hl 0 rfl) ?_
  refine lv_iload_n hx hb dX0_lookAhead_1 rfl (lv_at hl 2 rfl) ?_
  obtain ⟨now_1, hc, hf⟩ := ob1_some hf
  refine g_VV (As := [.int x2]) (rest := []) (ws' := (w_X0_lookAhead kc a0 a1 a2 a3 a4 a5 a6 a7 a8 a9 now_1 then_ count turnCount follow)) ⟨hx, hb, hml, hown, hts⟩ hN hK hP hD hS hA (c_X0_begin l D kc N a0 a1 a2 now x2 now_1 hc) (cwV 1 hts gX0_lookAhead_X0_begin rfl rfl rfl (by decide +kernel) ⟨Nat.le_of_ble_eq_true rfl, Nat.le_of_ble_eq_true rfl⟩) [0, 1] [2, 3, 4] [3, 4, 0, 1, 2] (by exact ⟨rfl, rfl, by decide, rfl⟩) 0 0 rfl rfl rfl rfl hl.1 rfl (Nat.le_of_ble_eq_true rfl) dX0_lookAhead_2 ⟨Nat.le_refl _, Nat.le_refl _⟩ (fun H locs hP hD hS => ?_)
  refine lv_aload_n hx hb dX0_lookAhead_5 rfl (lv_at hl 0 rfl) ?_
  refine lv_iload hx hb dX0_lookAhead_6 (lv_at hl 4 rfl) ?_
  obtain ⟨now_2, hc, hf⟩ := ob1_some hf
  refine g_VV (As := [.int x4]) (rest := []) (ws' := (w_X0_lookAhead kc a0 a1 a2 a3 a4 a5 a6 a7 a8 a9 now_2 then_ count turnCount follow)) ⟨hx, hb, hml, hown, hts⟩ hN hK hP hD hS hA (c_X0_shun l D kc N a0 a1 a2 now_1 x4 now_2 hc) (cwV 1 hts gX0_lookAhead_X0_shun rfl rfl rfl (by decide +kernel) ⟨Nat.le_of_ble_eq_true rfl, Nat.le_of_ble_eq_true rfl⟩) [0, 1] [2, 3, 4] [3, 4, 0, 1, 2] (by exact ⟨rfl, rfl, by decide, rfl⟩) 0 0 rfl rfl rfl rfl hl.1 rfl (Nat.le_of_ble_eq_true rfl) dX0_lookAhead_8 ⟨Nat.le_refl _, Nat.le_refl _⟩ (fun H locs hP hD hS => ?_)
  refine lv_iconst (v := 0) hx hb dX0_lookAhead_11 (by decide) ?_
  refine lv_istore (lv' := [(5, .int 0), (0, .ref a0), (1, .ref a3), (2, .int x2), (3, .int x3), (4, .int x4)]) hx hb dX0_lookAhead_12 hl (by decide) rfl (fun ls hl => ?_)
  have L14 : ∀ (n : Nat) (y5_14 : Int32) (now_14 : Nat → Int64) (then__14 : Nat → Int64) (y5_14o : Int32) (now_14o : Nat → Int64) (then__14o : Nat → Int64), f_X0_lookAhead_14 N count follow x3 x4 n y5_14 now_14 then__14 = some (y5_14o, now_14o, then__14o) → (∀ (H : Heap) (locs : List Loc) (ls : Array Slot), va_P D vwCl (w_X0_lookAhead kc a0 a1 a2 a3 a4 a5 a6 a7 a8 a9 now_14o then__14o count turnCount follow) H → va_D A (w_X0_lookAhead kc a0 a1 a2 a3 a4 a5 a6 a7 a8 a9 now_14o then__14o count turnCount follow) → va_S A s.heap H locs → lv_has ls 6 [(0, .ref a0), (1, .ref a3), (2, .int x2), (3, .int x3), (4, .int x4), (5, .int y5_14o)] → W p l e ({ frames := 2, cells := 0, slots := 0, locals := 65 }) s m (([.ref a0, .ref a3, .int x2, .int x3, .int x4] : List Value).toArray) below meth c H locs 0 0 Q (F0 m 37 ls [])) → ∀ (H : Heap) (locs : List Loc) (ls : Array Slot), va_P D vwCl (w_X0_lookAhead kc a0 a1 a2 a3 a4 a5 a6 a7 a8 a9 now_14 then__14 count turnCount follow) H → va_D A (w_X0_lookAhead kc a0 a1 a2 a3 a4 a5 a6 a7 a8 a9 now_14 then__14 count turnCount follow) → va_S A s.heap H locs → lv_has ls 6 [(0, .ref a0), (1, .ref a3), (2, .int x2), (3, .int x3), (4, .int x4), (5, .int y5_14)] → W p l e ({ frames := 2, cells := 0, slots := 0, locals := 65 }) s m (([.ref a0, .ref a3, .int x2, .int x3, .int x4] : List Value).toArray) below meth c H locs 0 0 Q (F0 m 14 ls []) := by
    intro n
    induction n with
    | zero => intro _ _ _ _ _ _ hf; rw [f_X0_lookAhead_14.eq_1] at hf; cases hf
    | succ n ih =>
      intro y5_14 now_14 then__14 y5_14o now_14o then__14o hf hk H locs ls hP hD hS hl
      rw [f_X0_lookAhead_14.eq_2] at hf
      refine lv_iload hx hb dX0_lookAhead_14 (lv_at hl 5 rfl) ?_
      refine lv_iload_n hx hb dX0_lookAhead_16 rfl (lv_at hl 3 rfl) ?_
      refine lv_icmp_ge (tgt := 37) hx hb dX0_lookAhead_17 (by decide) (fun hc => ?_) (fun hc => ?_)
      · have hf := o_t hc hf
        cases hf
        exact hk _ _ _ hP hD hS (lv_sub hl [0, 1, 2, 3, 4, 5] rfl)
      · have hf := o_f hc hf
        refine lv_aload_n hx hb dX0_lookAhead_20 rfl (lv_at hl 0 rfl) ?_
        refine lv_aload_n hx hb dX0_lookAhead_21 rfl (lv_at hl 1 rfl) ?_
        obtain ⟨then__3, now_4, hc, hf⟩ := ob2_some hf
        refine g_VV (As := [.ref a3]) (rest := []) (ws' := (w_X0_lookAhead kc a0 a1 a2 a3 a4 a5 a6 a7 a8 a9 now_4 then__3 count turnCount follow)) ⟨hx, hb, hml, hown, hts⟩ hN hK hP hD hS hA (c_X0_passDay l D kc N a0 a1 a2 a3 a4 a5 a6 a7 a8 a9 then__14 count turnCount now_14 follow then__3 now_4 hc) (cwV 1 hts gX0_lookAhead_X0_passDay rfl rfl rfl (by decide +kernel) ⟨Nat.le_of_ble_eq_true rfl, Nat.le_of_ble_eq_true rfl⟩) [0, 2, 3, 1, 4] [] [0, 3, 1, 2, 4] (by exact ⟨rfl, rfl, by decide, rfl⟩) 0 0 rfl rfl rfl rfl hl.1 rfl (Nat.le_of_ble_eq_true rfl) dX0_lookAhead_22 ⟨Nat.le_refl _, Nat.le_refl _⟩ (fun H locs hP hD hS => ?_)
        refine lv_aload_n hx hb dX0_lookAhead_25 rfl (lv_at hl 0 rfl) ?_
        refine lv_iload hx hb dX0_lookAhead_26 (lv_at hl 4 rfl) ?_
        obtain ⟨now_5, hc, hf⟩ := ob1_some hf
        refine g_VV (As := [.int x4]) (rest := []) (ws' := (w_X0_lookAhead kc a0 a1 a2 a3 a4 a5 a6 a7 a8 a9 now_5 then__3 count turnCount follow)) ⟨hx, hb, hml, hown, hts⟩ hN hK hP hD hS hA (c_X0_shun l D kc N a0 a1 a2 now_4 x4 now_5 hc) (cwV 1 hts gX0_lookAhead_X0_shun rfl rfl rfl (by decide +kernel) ⟨Nat.le_of_ble_eq_true rfl, Nat.le_of_ble_eq_true rfl⟩) [0, 1] [2, 3, 4] [3, 4, 0, 1, 2] (by exact ⟨rfl, rfl, by decide, rfl⟩) 0 0 rfl rfl rfl rfl hl.1 rfl (Nat.le_of_ble_eq_true rfl) dX0_lookAhead_28 ⟨Nat.le_refl _, Nat.le_refl _⟩ (fun H locs hP hD hS => ?_)
        refine lv_iinc (v := (y5_14 + 1)) (lv' := [(5, .int (y5_14 + 1)), (0, .ref a0), (1, .ref a3), (2, .int x2), (3, .int x3), (4, .int x4)]) hx hb dX0_lookAhead_31 hl (k := 5) rfl (by rfl) (by decide) rfl (fun ls hl => ?_)
        refine lv_goto (tgt := 14) hx hb dX0_lookAhead_34 (by decide) ?_
        exact ih _ _ _ _ _ _ hf hk _ _ _ hP hD hS (lv_sub hl [1, 2, 3, 4, 5, 0] rfl)
  obtain ⟨y5_14o, now_14o, then__14o, hc, hf⟩ := ob3_some hf
  refine L14 N _ _ _ _ _ _ hc (fun H locs ls hP hD hS hl => ?_) _ _ _ hP hD hS (lv_sub hl [1, 2, 3, 4, 5, 0] rfl)
  cases hf
  exact kR _ _ _ _ hP hD hS dX0_lookAhead_37
abbrev w_X0_of (kc : Nat → ClassId) (a0 a1 a2 : Nat) (now : Nat → Int64) : va_W := [(a0, .inr (0, [.ref a1, .ref a2])), (a1, .inl (kc 2, 6, .inr (.inl now)))]
set_option maxHeartbeats 4000000 in
set_option maxRecDepth 100000 in
theorem c_X0_of (l : Launch) (D : va_G) (kc : Nat → ClassId) (N : Nat) (a0 a1 a2 : Nat) (now : Nat → Int64) (x1 : Int32) (r_ : Int64) (hf : f_X0_of N now x1 = some r_) : ML l yX0_of wsX0_of ({ frames := 0, cells := 0, slots := 0, locals := 0 }) D kc [.ref a0, .int x1] (w_X0_of kc a0 a1 a2 now) (w_X0_of kc a0 a1 a2 now) r_ := by
  refine gM_L (cc := cX0_of) (maxL := 2) (by decide) rfl (Nat.le_of_ble_eq_true rfl) ?_
  intro p e s m below meth c A ls Q hx hb hml hown hts hN hK hP hD hA hl kR
  have hS : va_S A s.heap s.heap [] := va_S.rf
  have hl : lv_has ls 2 [(0, .ref a0), (1, .int x1)] := hl
  have in_X0 : ∀ w ∈ u_ws RX0 TX0 2, w ∈ wsX0_of := by decide +kernel
  have lk_9 := hts (.fieldLink RX0 9 "BalloonMail$Chances" "now" "[J") (by decide +kernel)
  unfold f_X0_of at hf
  refine lv_iload_n hx hb dX0_of_0 rfl (lv_at hl 1 rfl) ?_
  refine lv_if_lt (tgt := 22) hx hb dX0_of_1 (by decide) (fun hc => ?_) (fun hc => ?_)
  · have hf := o_t hc hf
    refine lv_lconst (v := 0) hx hb dX0_of_22 (by decide) ?_
    cases hf
    exact kR _ _ _ _ hP hD hS dX0_of_23
  · have hf := o_f hc hf
    refine lv_iload_n hx hb dX0_of_4 rfl (lv_at hl 1 rfl) ?_
    refine lv_aload_n hx hb dX0_of_5 rfl (lv_at hl 0 rfl) ?_
    refine va_get (D := D) (ci := 0) (v := .ref a1) (C := RX0) (T := TX0) (N := 2) hx hb hts in_X0 hown hK hP 0 rfl rfl 0 (by decide) lk_9 (fun _ h9 => h9) rfl dX0_of_6 ?_
    refine va_alen hx hb hK hP 1 2 rfl rfl (v := 6) (by rfl) dX0_of_9 ?_
    refine lv_icmp_ge (tgt := 22) hx hb dX0_of_10 (by decide) (fun hc => ?_) (fun hc => ?_)
    · have hf := o_t hc hf
      refine lv_lconst (v := 0) hx hb dX0_of_22 (by decide) ?_
      cases hf
      exact kR _ _ _ _ hP hD hS dX0_of_23
    · have hf := o_f hc hf
      refine lv_aload_n hx hb dX0_of_13 rfl (lv_at hl 0 rfl) ?_
      refine va_get (D := D) (ci := 0) (v := .ref a1) (C := RX0) (T := TX0) (N := 2) hx hb hts in_X0 hown hK hP 0 rfl rfl 0 (by decide) lk_9 (fun _ h9 => h9) rfl dX0_of_14 ?_
      refine lv_iload_n hx hb dX0_of_17 rfl (lv_at hl 1 rfl) ?_
      obtain ⟨hi, hf⟩ := gIx_some hf
      refine va_lald hx hb hK hP 1 2 rfl rfl hi dX0_of_18 ?_
      refine lv_goto (tgt := 23) hx hb dX0_of_19 (by decide) ?_
      cases hf
      exact kR _ _ _ _ hP hD hS dX0_of_23
abbrev w_X0_sum (kc : Nat → ClassId) (a0 a1 a2 : Nat) (now : Nat → Int64) : va_W := [(a0, .inr (0, [.ref a1, .ref a2])), (a1, .inl (kc 2, 6, .inr (.inl now)))]
set_option maxHeartbeats 4000000 in
set_option maxRecDepth 100000 in
theorem c_X0_sum (l : Launch) (D : va_G) (kc : Nat → ClassId) (N : Nat) (a0 a1 a2 : Nat) (now : Nat → Int64) (r_ : Int64) (hf : f_X0_sum N now = some r_) : ML l yX0_sum wsX0_sum ({ frames := 0, cells := 0, slots := 0, locals := 0 }) D kc [.ref a0] (w_X0_sum kc a0 a1 a2 now) (w_X0_sum kc a0 a1 a2 now) r_ := by
  refine gM_L (cc := cX0_sum) (maxL := 4) (by decide) rfl (Nat.le_of_ble_eq_true rfl) ?_
  intro p e s m below meth c A ls Q hx hb hml hown hts hN hK hP hD hA hl kR
  have hS : va_S A s.heap s.heap [] := va_S.rf
  have hl : lv_has ls 4 [(0, .ref a0)] := hl
  have in_X0 : ∀ w ∈ u_ws RX0 TX0 2, w ∈ wsX0_sum := by decide +kernel
  have lk_9 := hts (.fieldLink RX0 9 "BalloonMail$Chances" "now" "[J") (by decide +kernel)
  unfold f_X0_sum at hf
  refine lv_lconst (v := 0) hx hb dX0_sum_0 (by decide) ?_
  refine lv_lstore_n (lv' := [(1, .long 0), (0, .ref a0)]) hx hb dX0_sum_1 rfl hl (by decide) rfl (fun ls hl => ?_)
  refine lv_iconst (v := 0) hx hb dX0_sum_2 (by decide) ?_
  refine lv_istore_n (lv' := [(3, .int 0), (1, .long 0), (0, .ref a0)]) hx hb dX0_sum_3 rfl hl (by decide) rfl (fun ls hl => ?_)
  have L4 : ∀ (n : Nat) (y3_4 : Int32) (y1_4 : Int64) (y3_4o : Int32) (y1_4o : Int64), f_X0_sum_4 N now n y3_4 y1_4 = some (y3_4o, y1_4o) → (∀ (H : Heap) (locs : List Loc) (ls : Array Slot), va_P D vwCl (w_X0_sum kc a0 a1 a2 now) H → va_D A (w_X0_sum kc a0 a1 a2 now) → va_S A s.heap H locs → lv_has ls 4 [(0, .ref a0), (1, .long y1_4o), (3, .int y3_4o)] → W p l e ({ frames := 0, cells := 0, slots := 0, locals := 0 }) s m (([.ref a0] : List Value).toArray) below meth c H locs 0 0 Q (F0 m 28 ls [])) → ∀ (H : Heap) (locs : List Loc) (ls : Array Slot), va_P D vwCl (w_X0_sum kc a0 a1 a2 now) H → va_D A (w_X0_sum kc a0 a1 a2 now) → va_S A s.heap H locs → lv_has ls 4 [(0, .ref a0), (1, .long y1_4), (3, .int y3_4)] → W p l e ({ frames := 0, cells := 0, slots := 0, locals := 0 }) s m (([.ref a0] : List Value).toArray) below meth c H locs 0 0 Q (F0 m 4 ls []) := by
    intro n
    induction n with
    | zero => intro _ _ _ _ hf; rw [f_X0_sum_4.eq_1] at hf; cases hf
    | succ n ih =>
      intro y3_4 y1_4 y3_4o y1_4o hf hk H locs ls hP hD hS hl
      rw [f_X0_sum_4.eq_2] at hf
      refine lv_iload_n hx hb dX0_sum_4 rfl (lv_at hl 2 rfl) ?_
      refine lv_aload_n hx hb dX0_sum_5 rfl (lv_at hl 0 rfl) ?_
      refine va_get (D := D) (ci := 0) (v := .ref a1) (C := RX0) (T := TX0) (N := 2) hx hb hts in_X0 hown hK hP 0 rfl rfl 0 (by decide) lk_9 (fun _ h9 => h9) rfl dX0_sum_6 ?_
      refine va_alen hx hb hK hP 1 2 rfl rfl (v := 6) (by rfl) dX0_sum_9 ?_
      refine lv_icmp_ge (tgt := 28) hx hb dX0_sum_10 (by decide) (fun hc => ?_) (fun hc => ?_)
      · have hf := o_t hc hf
        cases hf
        exact hk _ _ _ hP hD hS (lv_sub hl [0, 1, 2] rfl)
      · have hf := o_f hc hf
        refine lv_lload_n hx hb dX0_sum_13 rfl (lv_at hl 1 rfl) ?_
        refine lv_aload_n hx hb dX0_sum_14 rfl (lv_at hl 0 rfl) ?_
        refine va_get (D := D) (ci := 0) (v := .ref a1) (C := RX0) (T := TX0) (N := 2) hx hb hts in_X0 hown hK hP 0 rfl rfl 0 (by decide) lk_9 (fun _ h9 => h9) rfl dX0_sum_15 ?_
        refine lv_iload_n hx hb dX0_sum_18 rfl (lv_at hl 2 rfl) ?_
        obtain ⟨hi, hf⟩ := gIx_some hf
        refine va_lald hx hb hK hP 1 2 rfl rfl hi dX0_sum_19 ?_
        refine lv_ladd hx hb dX0_sum_20 ?_
        refine lv_lstore_n (lv' := [(1, .long (y1_4 + (now (y3_4 : Int32).toNatClampNeg))), (0, .ref a0), (3, .int y3_4)]) hx hb dX0_sum_21 rfl hl (by decide) rfl (fun ls hl => ?_)
        refine lv_iinc (v := (y3_4 + 1)) (lv' := [(3, .int (y3_4 + 1)), (1, .long (y1_4 + (now (y3_4 : Int32).toNatClampNeg))), (0, .ref a0)]) hx hb dX0_sum_22 hl (k := 2) rfl (by rfl) (by decide) rfl (fun ls hl => ?_)
        refine lv_goto (tgt := 4) hx hb dX0_sum_25 (by decide) ?_
        exact ih _ _ _ _ hf hk _ _ _ hP hD hS (lv_sub hl [2, 1, 0] rfl)
  obtain ⟨y3_4o, y1_4o, hc, hf⟩ := ob2_some hf
  refine L4 N _ _ _ _ hc (fun H locs ls hP hD hS hl => ?_) _ _ _ hP hD hS (lv_sub hl [2, 1, 0] rfl)
  refine lv_lload_n hx hb dX0_sum_28 rfl (lv_at hl 1 rfl) ?_
  cases hf
  exact kR _ _ _ _ hP hD hS dX0_sum_29
abbrev w_X0_comingDown (kc : Nat → ClassId) (a0 a1 a2 a3 a4 a5 a6 a7 a8 a9 : Nat) (count : Int32) (turnCount : Int32) (now : Nat → Int64) (land : Nat → Int32) : va_W := [(a0, .inr (7, [.int count, .int turnCount, .ref a1, .ref a2, .ref a3, .ref a4, .ref a5, .ref a6])), (a7, .inr (0, [.ref a8, .ref a9])), (a8, .inl (kc 2, 6, .inr (.inl now))), (a4, .inl (kc 1, 54, .inl land))]
set_option maxHeartbeats 4000000 in
set_option maxRecDepth 100000 in
theorem c_X0_comingDown (l : Launch) (D : va_G) (kc : Nat → ClassId) (N : Nat) (a0 a1 a2 a3 a4 a5 a6 a7 a8 a9 : Nat) (count : Int32) (turnCount : Int32) (now : Nat → Int64) (land : Nat → Int32) (x2 : Int32) (r_ : Int64) (hf : f_X0_comingDown N count now land x2 = some r_) : ML l yX0_comingDown wsX0_comingDown ({ frames := 1, cells := 0, slots := 0, locals := 22 }) D kc [.ref a7, .ref a0, .int x2] (w_X0_comingDown kc a0 a1 a2 a3 a4 a5 a6 a7 a8 a9 count turnCount now land) (w_X0_comingDown kc a0 a1 a2 a3 a4 a5 a6 a7 a8 a9 count turnCount now land) r_ := by
  refine gM_L (cc := cX0_comingDown) (maxL := 6) (by decide) rfl (Nat.le_of_ble_eq_true rfl) ?_
  intro p e s m below meth c A ls Q hx hb hml hown hts hN hK hP hD hA hl kR
  have hS : va_S A s.heap s.heap [] := va_S.rf
  have hl : lv_has ls 6 [(0, .ref a7), (1, .ref a0), (2, .int x2)] := hl
  have in_X7 : ∀ w ∈ u_ws RX7 TX7 8, w ∈ wsX0_comingDown := by decide +kernel
  have lk_29 := hts (.fieldLink RX0 29 "BalloonMail$Winds" "count" "I") (by decide +kernel)
  have in_X0 : ∀ w ∈ u_ws RX0 TX0 2, w ∈ wsX0_comingDown := by decide +kernel
  have lk_9 := hts (.fieldLink RX0 9 "BalloonMail$Chances" "now" "[J") (by decide +kernel)
  unfold f_X0_comingDown at hf
  refine lv_lconst (v := 0) hx hb dX0_comingDown_0 (by decide) ?_
  refine lv_lstore_n (lv' := [(3, .long 0), (0, .ref a7), (1, .ref a0), (2, .int x2)]) hx hb dX0_comingDown_1 rfl hl (by decide) rfl (fun ls hl => ?_)
  refine lv_iconst (v := 0) hx hb dX0_comingDown_2 (by decide) ?_
  refine lv_istore (lv' := [(5, .int 0), (3, .long 0), (0, .ref a7), (1, .ref a0), (2, .int x2)]) hx hb dX0_comingDown_3 hl (by decide) rfl (fun ls hl => ?_)
  have L5 : ∀ (n : Nat) (y5_5 : Int32) (y3_5 : Int64) (y5_5o : Int32) (y3_5o : Int64), f_X0_comingDown_5 N count now land x2 n y5_5 y3_5 = some (y5_5o, y3_5o) → (∀ (H : Heap) (locs : List Loc) (ls : Array Slot), va_P D vwCl (w_X0_comingDown kc a0 a1 a2 a3 a4 a5 a6 a7 a8 a9 count turnCount now land) H → va_D A (w_X0_comingDown kc a0 a1 a2 a3 a4 a5 a6 a7 a8 a9 count turnCount now land) → va_S A s.heap H locs → lv_has ls 6 [(0, .ref a7), (1, .ref a0), (2, .int x2), (3, .long y3_5o), (5, .int y5_5o)] → W p l e ({ frames := 1, cells := 0, slots := 0, locals := 22 }) s m (([.ref a7, .ref a0, .int x2] : List Value).toArray) below meth c H locs 0 0 Q (F0 m 49 ls [])) → ∀ (H : Heap) (locs : List Loc) (ls : Array Slot), va_P D vwCl (w_X0_comingDown kc a0 a1 a2 a3 a4 a5 a6 a7 a8 a9 count turnCount now land) H → va_D A (w_X0_comingDown kc a0 a1 a2 a3 a4 a5 a6 a7 a8 a9 count turnCount now land) → va_S A s.heap H locs → lv_has ls 6 [(0, .ref a7), (1, .ref a0), (2, .int x2), (3, .long y3_5), (5, .int y5_5)] → W p l e ({ frames := 1, cells := 0, slots := 0, locals := 22 }) s m (([.ref a7, .ref a0, .int x2] : List Value).toArray) below meth c H locs 0 0 Q (F0 m 5 ls []) := by
    intro n
    induction n with
    | zero => intro _ _ _ _ hf; rw [f_X0_comingDown_5.eq_1] at hf; cases hf
    | succ n ih =>
      intro y5_5 y3_5 y5_5o y3_5o hf hk H locs ls hP hD hS hl
      rw [f_X0_comingDown_5.eq_2] at hf
      refine lv_iload hx hb dX0_comingDown_5 (lv_at hl 4 rfl) ?_
      refine lv_aload_n hx hb dX0_comingDown_7 rfl (lv_at hl 1 rfl) ?_
      refine va_get (D := D) (ci := 7) (v := .int count) (C := RX7) (T := TX7) (N := 8) hx hb hts in_X7 hown hK hP 0 rfl rfl 0 (by decide) lk_29 (fun _ h9 => h9) rfl dX0_comingDown_8 ?_
      refine lv_icmp_ge (tgt := 49) hx hb dX0_comingDown_11 (by decide) (fun hc => ?_) (fun hc => ?_)
      · have hf := o_t hc hf
        cases hf
        exact hk _ _ _ hP hD hS (lv_sub hl [0, 1, 2, 3, 4] rfl)
      · have hf := o_f hc hf
        refine lv_iload hx hb dX0_comingDown_14 (lv_at hl 4 rfl) ?_
        refine lv_aload_n hx hb dX0_comingDown_16 rfl (lv_at hl 0 rfl) ?_
        refine va_get (D := D) (ci := 0) (v := .ref a8) (C := RX0) (T := TX0) (N := 2) hx hb hts in_X0 hown hK hP 1 rfl rfl 0 (by decide) lk_9 (fun _ h9 => h9) rfl dX0_comingDown_17 ?_
        refine va_alen hx hb hK hP 2 2 rfl rfl (v := 6) (by rfl) dX0_comingDown_20 ?_
        refine lv_icmp_ge (tgt := 49) hx hb dX0_comingDown_21 (by decide) (fun hc => ?_) (fun hc => ?_)
        · have hf := o_t hc hf
          cases hf
          exact hk _ _ _ hP hD hS (lv_sub hl [0, 1, 2, 3, 4] rfl)
        · have hf := o_f hc hf
          refine lv_lload_n hx hb dX0_comingDown_24 rfl (lv_at hl 3 rfl) ?_
          refine lv_aload_n hx hb dX0_comingDown_25 rfl (lv_at hl 0 rfl) ?_
          refine va_get (D := D) (ci := 0) (v := .ref a8) (C := RX0) (T := TX0) (N := 2) hx hb hts in_X0 hown hK hP 1 rfl rfl 0 (by decide) lk_9 (fun _ h9 => h9) rfl dX0_comingDown_26 ?_
          refine lv_iload hx hb dX0_comingDown_29 (lv_at hl 4 rfl) ?_
          obtain ⟨hi, hf⟩ := gIx_some hf
          refine va_lald hx hb hK hP 2 2 rfl rfl hi dX0_comingDown_31 ?_
          refine lv_aload_n hx hb dX0_comingDown_32 rfl (lv_at hl 1 rfl) ?_
          refine lv_iload hx hb dX0_comingDown_33 (lv_at hl 4 rfl) ?_
          refine lv_iload_n hx hb dX0_comingDown_35 rfl (lv_at hl 2 rfl) ?_
          obtain ⟨r_1, hc, hf⟩ := ob1_some hf
          refine g_VI (As := [.int y5_5, .int x2]) (rest := [.long (now (y5_5 : Int32).toNatClampNeg), .long y3_5]) (ws' := (w_X0_comingDown kc a0 a1 a2 a3 a4 a5 a6 a7 a8 a9 count turnCount now land)) ⟨hx, hb, hml, hown, hts⟩ hN hK hP hD hS hA (c_X7_landTenths l D kc N a0 a1 a2 a3 a4 a5 a6 count turnCount land y5_5 x2 r_1 hc) (cwV 2 hts gX0_comingDown_X7_landTenths rfl rfl rfl (by decide +kernel) ⟨Nat.le_of_ble_eq_true rfl, Nat.le_of_ble_eq_true rfl⟩) [0, 3] [1, 2] [2, 0, 1, 3] (by exact ⟨rfl, rfl, by decide, rfl⟩) 0 7 rfl rfl rfl rfl hl.1 rfl (Nat.le_of_ble_eq_true rfl) dX0_comingDown_36 ⟨Nat.le_refl _, Nat.le_refl _⟩ (fun H locs hP hD hS => ?_)
          refine lv_i2l (v := (r_1 : Int32).toInt64) hx hb dX0_comingDown_39 rfl ?_
          refine lv_lmul hx hb dX0_comingDown_40 ?_
          refine lv_ladd hx hb dX0_comingDown_41 ?_
          refine lv_lstore_n (lv' := [(3, .long (y3_5 + ((now (y5_5 : Int32).toNatClampNeg) * ((r_1 : Int32).toInt64)))), (0, .ref a7), (1, .ref a0), (2, .int x2), (5, .int y5_5)]) hx hb dX0_comingDown_42 rfl hl (by decide) rfl (fun ls hl => ?_)
          refine lv_iinc (v := (y5_5 + 1)) (lv' := [(5, .int (y5_5 + 1)), (3, .long (y3_5 + ((now (y5_5 : Int32).toNatClampNeg) * ((r_1 : Int32).toInt64)))), (0, .ref a7), (1, .ref a0), (2, .int x2)]) hx hb dX0_comingDown_43 hl (k := 4) rfl (by rfl) (by decide) rfl (fun ls hl => ?_)
          refine lv_goto (tgt := 5) hx hb dX0_comingDown_46 (by decide) ?_
          exact ih _ _ _ _ hf hk _ _ _ hP hD hS (lv_sub hl [2, 3, 4, 1, 0] rfl)
  obtain ⟨y5_5o, y3_5o, hc, hf⟩ := ob2_some hf
  refine L5 N _ _ _ _ hc (fun H locs ls hP hD hS hl => ?_) _ _ _ hP hD hS (lv_sub hl [2, 3, 4, 1, 0] rfl)
  refine lv_lload_n hx hb dX0_comingDown_49 rfl (lv_at hl 3 rfl) ?_
  cases hf
  exact kR _ _ _ _ hP hD hS dX0_comingDown_50
abbrev w_X0_landed (kc : Nat → ClassId) (a0 a1 a2 a3 a4 a5 a6 a7 a8 a9 a10 a11 a12 a13 a14 a15 a16 a17 : Nat) (regions : Int32) (balloons : Int32) (letters : Int32) (loft : Int32) (start : Int32) (seed : Int32) (count : Int32) (turnCount : Int32) (now : Nat → Int64) (land : Nat → Int32) (risk : Nat → Int32) : va_W := [(a0, .inr (5, [.ref a1, .ref a2, .ref a3, .ref a4, .ref a5, .ref a6, .ref a7, .ref a8, .int regions, .int balloons, .int letters, .int loft, .int start, .int seed])), (a1, .inr (7, [.int count, .int turnCount, .ref a9, .ref a10, .ref a11, .ref a12, .ref a13, .ref a14])), (a15, .inr (0, [.ref a16, .ref a17])), (a16, .inl (kc 2, 6, .inr (.inl now))), (a12, .inl (kc 1, 54, .inl land)), (a2, .inl (kc 1, 8, .inl risk))]
set_option maxHeartbeats 4000000 in
set_option maxRecDepth 100000 in
theorem c_X0_landed (l : Launch) (D : va_G) (kc : Nat → ClassId) (N : Nat) (a0 a1 a2 a3 a4 a5 a6 a7 a8 a9 a10 a11 a12 a13 a14 a15 a16 a17 : Nat) (regions : Int32) (balloons : Int32) (letters : Int32) (loft : Int32) (start : Int32) (seed : Int32) (count : Int32) (turnCount : Int32) (now : Nat → Int64) (land : Nat → Int32) (risk : Nat → Int32) (x2 : Int32) (r_ : Int64) (hf : f_X0_landed N regions count now land risk x2 = some r_) : ML l yX0_landed wsX0_landed ({ frames := 2, cells := 0, slots := 0, locals := 47 }) D kc [.ref a15, .ref a0, .int x2] (w_X0_landed kc a0 a1 a2 a3 a4 a5 a6 a7 a8 a9 a10 a11 a12 a13 a14 a15 a16 a17 regions balloons letters loft start seed count turnCount now land risk) (w_X0_landed kc a0 a1 a2 a3 a4 a5 a6 a7 a8 a9 a10 a11 a12 a13 a14 a15 a16 a17 regions balloons letters loft start seed count turnCount now land risk) r_ := by
  refine gM_L (cc := cX0_landed) (maxL := 3) (by decide) rfl (Nat.le_of_ble_eq_true rfl) ?_
  intro p e s m below meth c A ls Q hx hb hml hown hts hN hK hP hD hA hl kR
  have hS : va_S A s.heap s.heap [] := va_S.rf
  have hl : lv_has ls 3 [(0, .ref a15), (1, .ref a0), (2, .int x2)] := hl
  have in_X5 : ∀ w ∈ u_ws RX5 TX5 14, w ∈ wsX0_landed := by decide +kernel
  have lk_61 := hts (.fieldLink RX0 61 "BalloonMail$Siege" "winds" "LBalloonMail$Winds;") (by decide +kernel)
  have lk_69 := hts (.fieldLink RX0 69 "BalloonMail$Siege" "risk" "[I") (by decide +kernel)
  unfold f_X0_landed at hf
  refine lv_aload_n hx hb dX0_landed_0 rfl (lv_at hl 1 rfl) ?_
  refine lv_iload_n hx hb dX0_landed_1 rfl (lv_at hl 2 rfl) ?_
  obtain ⟨r_1, hc, hf⟩ := ob1_some hf
  refine g_VZ (As := [.int x2]) (rest := []) (ws' := (w_X0_landed kc a0 a1 a2 a3 a4 a5 a6 a7 a8 a9 a10 a11 a12 a13 a14 a15 a16 a17 regions balloons letters loft start seed count turnCount now land risk)) ⟨hx, hb, hml, hown, hts⟩ hN hK hP hD hS hA (c_X5_hasRegion l D kc N a0 a1 a2 a3 a4 a5 a6 a7 a8 regions balloons letters loft start seed x2 r_1 hc) (cwV 1 hts gX0_landed_X5_hasRegion rfl rfl rfl (by decide +kernel) ⟨Nat.le_of_ble_eq_true rfl, Nat.le_of_ble_eq_true rfl⟩) [0] [1, 2, 3, 4, 5] [5, 0, 1, 2, 3, 4] (by exact ⟨rfl, rfl, by decide, rfl⟩) 0 5 rfl rfl rfl rfl hl.1 rfl (Nat.le_of_ble_eq_true rfl) dX0_landed_2 ⟨Nat.le_refl _, Nat.le_refl _⟩ (fun H locs hz hP hD hS => ?_)
  have hz_2 := hz
  refine lv_if_ne (tgt := 10) hx hb dX0_landed_5 (by decide) (fun hc => ?_) (fun hc => ?_)
  · have hf := o_f hc hf
    refine lv_aload_n hx hb dX0_landed_10 rfl (lv_at hl 0 rfl) ?_
    refine lv_aload_n hx hb dX0_landed_11 rfl (lv_at hl 1 rfl) ?_
    refine va_get (D := D) (ci := 5) (v := .ref a1) (C := RX5) (T := TX5) (N := 14) hx hb hts in_X5 hown hK hP 0 rfl rfl 0 (by decide) lk_61 (fun _ h9 => h9) rfl dX0_landed_12 ?_
    refine lv_iload_n hx hb dX0_landed_15 rfl (lv_at hl 2 rfl) ?_
    obtain ⟨r_3, hc, hf⟩ := ob1_some hf
    refine g_VL (As := [.ref a1, .int x2]) (rest := []) (ws' := (w_X0_landed kc a0 a1 a2 a3 a4 a5 a6 a7 a8 a9 a10 a11 a12 a13 a14 a15 a16 a17 regions balloons letters loft start seed count turnCount now land risk)) ⟨hx, hb, hml, hown, hts⟩ hN hK hP hD hS hA (c_X0_comingDown l D kc N a1 a9 a10 a11 a12 a13 a14 a15 a16 a17 count turnCount now land x2 r_3 hc) (cwV 2 hts gX0_landed_X0_comingDown rfl rfl rfl (by decide +kernel) ⟨Nat.le_of_ble_eq_true rfl, Nat.le_of_ble_eq_true rfl⟩) [1, 2, 3, 4] [0, 5] [0, 2, 3, 4, 5, 1] (by exact ⟨rfl, rfl, by decide, rfl⟩) 2 0 rfl rfl rfl rfl hl.1 rfl (Nat.le_of_ble_eq_true rfl) dX0_landed_16 ⟨Nat.le_refl _, Nat.le_refl _⟩ (fun H locs hP hD hS => ?_)
    refine lv_bipush (v := 10) hx hb dX0_landed_19 (by decide) ?_
    refine lv_aload_n hx hb dX0_landed_21 rfl (lv_at hl 1 rfl) ?_
    refine va_get (D := D) (ci := 5) (v := .ref a2) (C := RX5) (T := TX5) (N := 14) hx hb hts in_X5 hown hK hP 0 rfl rfl 1 (by decide) lk_69 (fun _ h9 => h9) rfl dX0_landed_22 ?_
    refine lv_iload_n hx hb dX0_landed_25 rfl (lv_at hl 2 rfl) ?_
    obtain ⟨hi, hf⟩ := gIx_some hf
    refine va_iald hx hb hK hP 5 1 rfl rfl hi dX0_landed_26 ?_
    refine lv_isub hx hb dX0_landed_27 ?_
    refine lv_i2l (v := ((10 - (risk (x2 : Int32).toNatClampNeg)) : Int32).toInt64) hx hb dX0_landed_28 rfl ?_
    refine lv_lmul hx hb dX0_landed_29 ?_
    cases hf
    exact kR _ _ _ _ hP hD hS dX0_landed_30
  · have hf := o_t hc hf
    refine lv_lconst (v := 0) hx hb dX0_landed_8 (by decide) ?_
    cases hf
    exact kR _ _ _ _ hP hD hS dX0_landed_9
abbrev w_X0_delivered (kc : Nat → ClassId) (a0 a1 a2 a3 a4 a5 a6 a7 a8 a9 a10 a11 a12 a13 a14 a15 a16 a17 : Nat) (regions : Int32) (balloons : Int32) (letters : Int32) (loft : Int32) (start : Int32) (seed : Int32) (count : Int32) (turnCount : Int32) (now : Nat → Int64) (land : Nat → Int32) (risk : Nat → Int32) : va_W := [(a0, .inr (5, [.ref a1, .ref a2, .ref a3, .ref a4, .ref a5, .ref a6, .ref a7, .ref a8, .int regions, .int balloons, .int letters, .int loft, .int start, .int seed])), (a1, .inr (7, [.int count, .int turnCount, .ref a9, .ref a10, .ref a11, .ref a12, .ref a13, .ref a14])), (a15, .inr (0, [.ref a16, .ref a17])), (a16, .inl (kc 2, 6, .inr (.inl now))), (a12, .inl (kc 1, 54, .inl land)), (a2, .inl (kc 1, 8, .inl risk))]
set_option maxHeartbeats 4000000 in
set_option maxRecDepth 100000 in
theorem c_X0_delivered (l : Launch) (D : va_G) (kc : Nat → ClassId) (N : Nat) (a0 a1 a2 a3 a4 a5 a6 a7 a8 a9 a10 a11 a12 a13 a14 a15 a16 a17 : Nat) (regions : Int32) (balloons : Int32) (letters : Int32) (loft : Int32) (start : Int32) (seed : Int32) (count : Int32) (turnCount : Int32) (now : Nat → Int64) (land : Nat → Int32) (risk : Nat → Int32) (r_ : Int64) (hf : f_X0_delivered N regions count now land risk = some r_) : ML l yX0_delivered wsX0_delivered ({ frames := 3, cells := 0, slots := 0, locals := 69 }) D kc [.ref a15, .ref a0] (w_X0_delivered kc a0 a1 a2 a3 a4 a5 a6 a7 a8 a9 a10 a11 a12 a13 a14 a15 a16 a17 regions balloons letters loft start seed count turnCount now land risk) (w_X0_delivered kc a0 a1 a2 a3 a4 a5 a6 a7 a8 a9 a10 a11 a12 a13 a14 a15 a16 a17 regions balloons letters loft start seed count turnCount now land risk) r_ := by
  refine gM_L (cc := cX0_delivered) (maxL := 5) (by decide) rfl (Nat.le_of_ble_eq_true rfl) ?_
  intro p e s m below meth c A ls Q hx hb hml hown hts hN hK hP hD hA hl kR
  have hS : va_S A s.heap s.heap [] := va_S.rf
  have hl : lv_has ls 5 [(0, .ref a15), (1, .ref a0)] := hl
  have in_X5 : ∀ w ∈ u_ws RX5 TX5 14, w ∈ wsX0_delivered := by decide +kernel
  have lk_48 := hts (.fieldLink RX0 48 "BalloonMail$Siege" "regions" "I") (by decide +kernel)
  unfold f_X0_delivered at hf
  refine lv_lconst (v := 0) hx hb dX0_delivered_0 (by decide) ?_
  refine lv_lstore_n (lv' := [(2, .long 0), (0, .ref a15), (1, .ref a0)]) hx hb dX0_delivered_1 rfl hl (by decide) rfl (fun ls hl => ?_)
  refine lv_iconst (v := 0) hx hb dX0_delivered_2 (by decide) ?_
  refine lv_istore (lv' := [(4, .int 0), (2, .long 0), (0, .ref a15), (1, .ref a0)]) hx hb dX0_delivered_3 hl (by decide) rfl (fun ls hl => ?_)
  have L5 : ∀ (n : Nat) (y4_5 : Int32) (y2_5 : Int64) (y4_5o : Int32) (y2_5o : Int64), f_X0_delivered_5 N regions count now land risk n y4_5 y2_5 = some (y4_5o, y2_5o) → (∀ (H : Heap) (locs : List Loc) (ls : Array Slot), va_P D vwCl (w_X0_delivered kc a0 a1 a2 a3 a4 a5 a6 a7 a8 a9 a10 a11 a12 a13 a14 a15 a16 a17 regions balloons letters loft start seed count turnCount now land risk) H → va_D A (w_X0_delivered kc a0 a1 a2 a3 a4 a5 a6 a7 a8 a9 a10 a11 a12 a13 a14 a15 a16 a17 regions balloons letters loft start seed count turnCount now land risk) → va_S A s.heap H locs → lv_has ls 5 [(0, .ref a15), (1, .ref a0), (2, .long y2_5o), (4, .int y4_5o)] → W p l e ({ frames := 3, cells := 0, slots := 0, locals := 69 }) s m (([.ref a15, .ref a0] : List Value).toArray) below meth c H locs 0 0 Q (F0 m 30 ls [])) → ∀ (H : Heap) (locs : List Loc) (ls : Array Slot), va_P D vwCl (w_X0_delivered kc a0 a1 a2 a3 a4 a5 a6 a7 a8 a9 a10 a11 a12 a13 a14 a15 a16 a17 regions balloons letters loft start seed count turnCount now land risk) H → va_D A (w_X0_delivered kc a0 a1 a2 a3 a4 a5 a6 a7 a8 a9 a10 a11 a12 a13 a14 a15 a16 a17 regions balloons letters loft start seed count turnCount now land risk) → va_S A s.heap H locs → lv_has ls 5 [(0, .ref a15), (1, .ref a0), (2, .long y2_5), (4, .int y4_5)] → W p l e ({ frames := 3, cells := 0, slots := 0, locals := 69 }) s m (([.ref a15, .ref a0] : List Value).toArray) below meth c H locs 0 0 Q (F0 m 5 ls []) := by
    intro n
    induction n with
    | zero => intro _ _ _ _ hf; rw [f_X0_delivered_5.eq_1] at hf; cases hf
    | succ n ih =>
      intro y4_5 y2_5 y4_5o y2_5o hf hk H locs ls hP hD hS hl
      rw [f_X0_delivered_5.eq_2] at hf
      refine lv_iload hx hb dX0_delivered_5 (lv_at hl 3 rfl) ?_
      refine lv_aload_n hx hb dX0_delivered_7 rfl (lv_at hl 1 rfl) ?_
      refine va_get (D := D) (ci := 5) (v := .int regions) (C := RX5) (T := TX5) (N := 14) hx hb hts in_X5 hown hK hP 0 rfl rfl 8 (by decide) lk_48 (fun _ h9 => h9) rfl dX0_delivered_8 ?_
      refine lv_icmp_ge (tgt := 30) hx hb dX0_delivered_11 (by decide) (fun hc => ?_) (fun hc => ?_)
      · have hf := o_t hc hf
        cases hf
        exact hk _ _ _ hP hD hS (lv_sub hl [0, 1, 2, 3] rfl)
      · have hf := o_f hc hf
        refine lv_lload_n hx hb dX0_delivered_14 rfl (lv_at hl 2 rfl) ?_
        refine lv_aload_n hx hb dX0_delivered_15 rfl (lv_at hl 0 rfl) ?_
        refine lv_aload_n hx hb dX0_delivered_16 rfl (lv_at hl 1 rfl) ?_
        refine lv_iload hx hb dX0_delivered_17 (lv_at hl 3 rfl) ?_
        obtain ⟨r_1, hc, hf⟩ := ob1_some hf
        refine g_VL (As := [.ref a0, .int y4_5]) (rest := [.long y2_5]) (ws' := (w_X0_delivered kc a0 a1 a2 a3 a4 a5 a6 a7 a8 a9 a10 a11 a12 a13 a14 a15 a16 a17 regions balloons letters loft start seed count turnCount now land risk)) ⟨hx, hb, hml, hown, hts⟩ hN hK hP hD hS hA (c_X0_landed l D kc N a0 a1 a2 a3 a4 a5 a6 a7 a8 a9 a10 a11 a12 a13 a14 a15 a16 a17 regions balloons letters loft start seed count turnCount now land risk y4_5 r_1 hc) (cwV 2 hts gX0_delivered_X0_landed rfl rfl rfl (by decide +kernel) ⟨Nat.le_of_ble_eq_true rfl, Nat.le_of_ble_eq_true rfl⟩) [0, 1, 2, 3, 4, 5] [] [0, 1, 2, 3, 4, 5] (by exact ⟨rfl, rfl, by decide, rfl⟩) 2 0 rfl rfl rfl rfl hl.1 rfl (Nat.le_of_ble_eq_true rfl) dX0_delivered_19 ⟨Nat.le_refl _, Nat.le_refl _⟩ (fun H locs hP hD hS => ?_)
        refine lv_ladd hx hb dX0_delivered_22 ?_
        refine lv_lstore_n (lv' := [(2, .long (y2_5 + r_1)), (0, .ref a15), (1, .ref a0), (4, .int y4_5)]) hx hb dX0_delivered_23 rfl hl (by decide) rfl (fun ls hl => ?_)
        refine lv_iinc (v := (y4_5 + 1)) (lv' := [(4, .int (y4_5 + 1)), (2, .long (y2_5 + r_1)), (0, .ref a15), (1, .ref a0)]) hx hb dX0_delivered_24 hl (k := 3) rfl (by rfl) (by decide) rfl (fun ls hl => ?_)
        refine lv_goto (tgt := 5) hx hb dX0_delivered_27 (by decide) ?_
        exact ih _ _ _ _ hf hk _ _ _ hP hD hS (lv_sub hl [2, 3, 1, 0] rfl)
  obtain ⟨y4_5o, y2_5o, hc, hf⟩ := ob2_some hf
  refine L5 N _ _ _ _ hc (fun H locs ls hP hD hS hl => ?_) _ _ _ hP hD hS (lv_sub hl [2, 3, 1, 0] rfl)
  refine lv_lload_n hx hb dX0_delivered_30 rfl (lv_at hl 2 rfl) ?_
  cases hf
  exact kR _ _ _ _ hP hD hS dX0_delivered_31
abbrev w_X0_answered (kc : Nat → ClassId) (a0 a1 a2 a3 a4 a5 a6 a7 a8 a9 a10 a11 a12 a13 a14 a15 a16 a17 : Nat) (regions : Int32) (balloons : Int32) (letters : Int32) (loft : Int32) (start : Int32) (seed : Int32) (comeback : Nat → Int32) (count : Int32) (turnCount : Int32) (now : Nat → Int64) (land : Nat → Int32) (risk : Nat → Int32) : va_W := [(a0, .inr (5, [.ref a1, .ref a2, .ref a3, .ref a4, .ref a5, .ref a6, .ref a7, .ref a8, .int regions, .int balloons, .int letters, .int loft, .int start, .int seed])), (a4, .inl (kc 1, 8, .inl comeback)), (a1, .inr (7, [.int count, .int turnCount, .ref a9, .ref a10, .ref a11, .ref a12, .ref a13, .ref a14])), (a15, .inr (0, [.ref a16, .ref a17])), (a16, .inl (kc 2, 6, .inr (.inl now))), (a12, .inl (kc 1, 54, .inl land)), (a2, .inl (kc 1, 8, .inl risk))]
set_option maxHeartbeats 4000000 in
set_option maxRecDepth 100000 in
theorem c_X0_answered (l : Launch) (D : va_G) (kc : Nat → ClassId) (N : Nat) (a0 a1 a2 a3 a4 a5 a6 a7 a8 a9 a10 a11 a12 a13 a14 a15 a16 a17 : Nat) (regions : Int32) (balloons : Int32) (letters : Int32) (loft : Int32) (start : Int32) (seed : Int32) (comeback : Nat → Int32) (count : Int32) (turnCount : Int32) (now : Nat → Int64) (land : Nat → Int32) (risk : Nat → Int32) (x2 : Int32) (r_ : Int64) (hf : f_X0_answered N regions comeback count now land risk x2 = some r_) : ML l yX0_answered wsX0_answered ({ frames := 3, cells := 0, slots := 0, locals := 69 }) D kc [.ref a15, .ref a0, .int x2] (w_X0_answered kc a0 a1 a2 a3 a4 a5 a6 a7 a8 a9 a10 a11 a12 a13 a14 a15 a16 a17 regions balloons letters loft start seed comeback count turnCount now land risk) (w_X0_answered kc a0 a1 a2 a3 a4 a5 a6 a7 a8 a9 a10 a11 a12 a13 a14 a15 a16 a17 regions balloons letters loft start seed comeback count turnCount now land risk) r_ := by
  refine gM_L (cc := cX0_answered) (maxL := 8) (by decide) rfl (Nat.le_of_ble_eq_true rfl) ?_
  intro p e s m below meth c A ls Q hx hb hml hown hts hN hK hP hD hA hl kR
  have hS : va_S A s.heap s.heap [] := va_S.rf
  have hl : lv_has ls 8 [(0, .ref a15), (1, .ref a0), (2, .int x2)] := hl
  have in_X5 : ∀ w ∈ u_ws RX5 TX5 14, w ∈ wsX0_answered := by decide +kernel
  have lk_48 := hts (.fieldLink RX0 48 "BalloonMail$Siege" "regions" "I") (by decide +kernel)
  have lk_73 := hts (.fieldLink RX0 73 "BalloonMail$Siege" "comeback" "[I") (by decide +kernel)
  unfold f_X0_answered at hf
  refine lv_lconst (v := 0) hx hb dX0_answered_0 (by decide) ?_
  refine lv_lstore_n (lv' := [(3, .long 0), (0, .ref a15), (1, .ref a0), (2, .int x2)]) hx hb dX0_answered_1 rfl hl (by decide) rfl (fun ls hl => ?_)
  refine lv_iconst (v := 0) hx hb dX0_answered_2 (by decide) ?_
  refine lv_istore (lv' := [(5, .int 0), (3, .long 0), (0, .ref a15), (1, .ref a0), (2, .int x2)]) hx hb dX0_answered_3 hl (by decide) rfl (fun ls hl => ?_)
  have L5 : ∀ (n : Nat) (y5_5 : Int32) (y3_5 : Int64) (y5_5o : Int32) (y3_5o : Int64), f_X0_answered_5 N regions comeback count now land risk x2 n y5_5 y3_5 = some (y5_5o, y3_5o) → (∀ (H : Heap) (locs : List Loc) (ls : Array Slot), va_P D vwCl (w_X0_answered kc a0 a1 a2 a3 a4 a5 a6 a7 a8 a9 a10 a11 a12 a13 a14 a15 a16 a17 regions balloons letters loft start seed comeback count turnCount now land risk) H → va_D A (w_X0_answered kc a0 a1 a2 a3 a4 a5 a6 a7 a8 a9 a10 a11 a12 a13 a14 a15 a16 a17 regions balloons letters loft start seed comeback count turnCount now land risk) → va_S A s.heap H locs → lv_has ls 8 [(0, .ref a15), (1, .ref a0), (2, .int x2), (3, .long y3_5o), (5, .int y5_5o)] → W p l e ({ frames := 3, cells := 0, slots := 0, locals := 69 }) s m (([.ref a15, .ref a0, .int x2] : List Value).toArray) below meth c H locs 0 0 Q (F0 m 56 ls [])) → ∀ (H : Heap) (locs : List Loc) (ls : Array Slot), va_P D vwCl (w_X0_answered kc a0 a1 a2 a3 a4 a5 a6 a7 a8 a9 a10 a11 a12 a13 a14 a15 a16 a17 regions balloons letters loft start seed comeback count turnCount now land risk) H → va_D A (w_X0_answered kc a0 a1 a2 a3 a4 a5 a6 a7 a8 a9 a10 a11 a12 a13 a14 a15 a16 a17 regions balloons letters loft start seed comeback count turnCount now land risk) → va_S A s.heap H locs → lv_has ls 8 [(0, .ref a15), (1, .ref a0), (2, .int x2), (3, .long y3_5), (5, .int y5_5)] → W p l e ({ frames := 3, cells := 0, slots := 0, locals := 69 }) s m (([.ref a15, .ref a0, .int x2] : List Value).toArray) below meth c H locs 0 0 Q (F0 m 5 ls []) := by
    intro n
    induction n with
    | zero => intro _ _ _ _ hf; rw [f_X0_answered_5.eq_1] at hf; cases hf
    | succ n ih =>
      intro y5_5 y3_5 y5_5o y3_5o hf hk H locs ls hP hD hS hl
      rw [f_X0_answered_5.eq_2] at hf
      refine lv_iload hx hb dX0_answered_5 (lv_at hl 4 rfl) ?_
      refine lv_aload_n hx hb dX0_answered_7 rfl (lv_at hl 1 rfl) ?_
      refine va_get (D := D) (ci := 5) (v := .int regions) (C := RX5) (T := TX5) (N := 14) hx hb hts in_X5 hown hK hP 0 rfl rfl 8 (by decide) lk_48 (fun _ h9 => h9) rfl dX0_answered_8 ?_
      refine lv_icmp_ge (tgt := 56) hx hb dX0_answered_11 (by decide) (fun hc => ?_) (fun hc => ?_)
      · have hf := o_t hc hf
        cases hf
        exact hk _ _ _ hP hD hS (lv_sub hl [0, 1, 2, 3, 4] rfl)
      · have hf := o_f hc hf
        refine lv_bipush (v := 10) hx hb dX0_answered_14 (by decide) ?_
        refine lv_aload_n hx hb dX0_answered_16 rfl (lv_at hl 1 rfl) ?_
        refine va_get (D := D) (ci := 5) (v := .ref a4) (C := RX5) (T := TX5) (N := 14) hx hb hts in_X5 hown hK hP 0 rfl rfl 3 (by decide) lk_73 (fun _ h9 => h9) rfl dX0_answered_17 ?_
        refine lv_iload hx hb dX0_answered_20 (lv_at hl 4 rfl) ?_
        obtain ⟨hi, hf⟩ := gIx_some hf
        refine va_iald hx hb hK hP 1 1 rfl rfl hi dX0_answered_22 ?_
        refine lv_isub hx hb dX0_answered_23 ?_
        refine lv_iload_n hx hb dX0_answered_24 rfl (lv_at hl 2 rfl) ?_
        obtain ⟨r_1, hc, hf⟩ := ob1_some hf
        refine g_NL (As := [.int (10 - (comeback (y5_5 : Int32).toNatClampNeg)), .int x2]) (rest := []) (ws' := (w_X0_answered kc a0 a1 a2 a3 a4 a5 a6 a7 a8 a9 a10 a11 a12 a13 a14 a15 a16 a17 regions balloons letters loft start seed comeback count turnCount now land risk)) ⟨hx, hb, hml, hown, hts⟩ hN hK hP hD hS hA (c_X8_power l D kc N (10 - (comeback (y5_5 : Int32).toNatClampNeg)) x2 r_1 hc) ⟨va_cnB 2 hts gX0_answered_X8_power_n76 rfl rfl rfl hN.1 (hts (.initialized RX8) (by decide +kernel)) (by decide +kernel) ⟨Nat.le_of_ble_eq_true rfl, Nat.le_of_ble_eq_true rfl⟩, hts (.static yX8_power) (by decide +kernel), trivial⟩ [] [0, 1, 2, 3, 4, 5, 6] [0, 1, 2, 3, 4, 5, 6] (by exact ⟨rfl, rfl, by decide, rfl⟩) rfl hl.1 rfl (Nat.le_of_ble_eq_true rfl) dX0_answered_25 ⟨Nat.le_refl _, Nat.le_refl _⟩ (fun H locs hP hD hS => ?_)
        refine lv_lstore (lv' := [(6, .long r_1), (0, .ref a15), (1, .ref a0), (2, .int x2), (3, .long y3_5), (5, .int y5_5)]) hx hb dX0_answered_28 hl (by decide) rfl (fun ls hl => ?_)
        refine lv_lload_n hx hb dX0_answered_30 rfl (lv_at hl 4 rfl) ?_
        refine lv_aload_n hx hb dX0_answered_31 rfl (lv_at hl 1 rfl) ?_
        refine lv_aload_n hx hb dX0_answered_32 rfl (lv_at hl 2 rfl) ?_
        refine lv_iload hx hb dX0_answered_33 (lv_at hl 5 rfl) ?_
        obtain ⟨r_2, hc, hf⟩ := ob1_some hf
        refine g_VL (As := [.ref a0, .int y5_5]) (rest := [.long y3_5]) (ws' := (w_X0_answered kc a0 a1 a2 a3 a4 a5 a6 a7 a8 a9 a10 a11 a12 a13 a14 a15 a16 a17 regions balloons letters loft start seed comeback count turnCount now land risk)) ⟨hx, hb, hml, hown, hts⟩ hN hK hP hD hS hA (c_X0_landed l D kc N a0 a1 a2 a3 a4 a5 a6 a7 a8 a9 a10 a11 a12 a13 a14 a15 a16 a17 regions balloons letters loft start seed count turnCount now land risk y5_5 r_2 hc) (cwV 2 hts gX0_answered_X0_landed rfl rfl rfl (by decide +kernel) ⟨Nat.le_of_ble_eq_true rfl, Nat.le_of_ble_eq_true rfl⟩) [0, 2, 3, 4, 5, 6] [1] [1, 0, 2, 3, 4, 5, 6] (by exact ⟨rfl, rfl, by decide, rfl⟩) 3 0 rfl rfl rfl rfl hl.1 rfl (Nat.le_of_ble_eq_true rfl) dX0_answered_35 ⟨Nat.le_refl _, Nat.le_refl _⟩ (fun H locs hP hD hS => ?_)
        refine lv_bipush (v := 10) hx hb dX0_answered_38 (by decide) ?_
        refine lv_iload_n hx hb dX0_answered_40 rfl (lv_at hl 3 rfl) ?_
        obtain ⟨r_3, hc, hf⟩ := ob1_some hf
        refine g_NL (As := [.int 10, .int x2]) (rest := [.long r_2, .long y3_5]) (ws' := (w_X0_answered kc a0 a1 a2 a3 a4 a5 a6 a7 a8 a9 a10 a11 a12 a13 a14 a15 a16 a17 regions balloons letters loft start seed comeback count turnCount now land risk)) ⟨hx, hb, hml, hown, hts⟩ hN hK hP hD hS hA (c_X8_power l D kc N 10 x2 r_3 hc) ⟨va_cnB 2 hts gX0_answered_X8_power_n76 rfl rfl rfl hN.1 (hts (.initialized RX8) (by decide +kernel)) (by decide +kernel) ⟨Nat.le_of_ble_eq_true rfl, Nat.le_of_ble_eq_true rfl⟩, hts (.static yX8_power) (by decide +kernel), trivial⟩ [] [0, 1, 2, 3, 4, 5, 6] [0, 1, 2, 3, 4, 5, 6] (by exact ⟨rfl, rfl, by decide, rfl⟩) rfl hl.1 rfl (Nat.le_of_ble_eq_true rfl) dX0_answered_41 ⟨Nat.le_refl _, Nat.le_refl _⟩ (fun H locs hP hD hS => ?_)
        refine lv_lload hx hb dX0_answered_44 (lv_at hl 0 rfl) ?_
        refine lv_lsub hx hb dX0_answered_46 ?_
        refine lv_lmul hx hb dX0_answered_47 ?_
        refine lv_ladd hx hb dX0_answered_48 ?_
        refine lv_lstore_n (lv' := [(3, .long (y3_5 + (r_2 * (r_3 - r_1)))), (6, .long r_1), (0, .ref a15), (1, .ref a0), (2, .int x2), (5, .int y5_5)]) hx hb dX0_answered_49 rfl hl (by decide) rfl (fun ls hl => ?_)
        refine lv_iinc (v := (y5_5 + 1)) (lv' := [(5, .int (y5_5 + 1)), (3, .long (y3_5 + (r_2 * (r_3 - r_1)))), (6, .long r_1), (0, .ref a15), (1, .ref a0), (2, .int x2)]) hx hb dX0_answered_50 hl (k := 5) rfl (by rfl) (by decide) rfl (fun ls hl => ?_)
        refine lv_goto (tgt := 5) hx hb dX0_answered_53 (by decide) ?_
        exact ih _ _ _ _ hf hk _ _ _ hP hD hS (lv_sub hl [3, 4, 5, 1, 0] rfl)
  obtain ⟨y5_5o, y3_5o, hc, hf⟩ := ob2_some hf
  refine L5 N _ _ _ _ hc (fun H locs ls hP hD hS hl => ?_) _ _ _ hP hD hS (lv_sub hl [2, 3, 4, 1, 0] rfl)
  refine lv_lload_n hx hb dX0_answered_56 rfl (lv_at hl 3 rfl) ?_
  cases hf
  exact kR _ _ _ _ hP hD hS dX0_answered_57
