abbrev w_X7_clear (kc : Nat → ClassId) (a0 a1 a2 a3 a4 a5 a6 : Nat) (count : Int32) (turnCount : Int32) : va_W := [(a0, .inr (7, [.int count, .int turnCount, .ref a1, .ref a2, .ref a3, .ref a4, .ref a5, .ref a6]))]
set_option maxHeartbeats 4000000 in
set_option maxRecDepth 100000 in
theorem c_X7_clear (l : Launch) (D : va_G) (kc : Nat → ClassId) (N : Nat) (a0 a1 a2 a3 a4 a5 a6 : Nat) (count : Int32) (turnCount : Int32) (count' : Int32) (turnCount' : Int32) (hf : f_X7_clear N = some (count', turnCount')) : MV l yX7_clear wsX7_clear ({ frames := 0, cells := 0, slots := 0, locals := 0 }) D kc [.ref a0] (w_X7_clear kc a0 a1 a2 a3 a4 a5 a6 count turnCount) (w_X7_clear kc a0 a1 a2 a3 a4 a5 a6 count' turnCount') := by
  refine gM_V (cc := cX7_clear) (maxL := 1) (by decide) rfl (Nat.le_of_ble_eq_true rfl) ?_
  intro p e s m below meth c A ls Q hx hb hml hown hts hN hK hP hD hA hl kR
  have hS : va_S A s.heap s.heap [] := va_S.rf
  have hl : lv_has ls 1 [(0, .ref a0)] := hl
  have in_X7 : ∀ w ∈ u_ws RX7 TX7 8, w ∈ wsX7_clear := by decide +kernel
  have lk_30 := hts (.fieldLink RX7 30 "BalloonMail$Winds" "count" "I") (by decide +kernel)
  have lk_34 := hts (.fieldLink RX7 34 "BalloonMail$Winds" "turnCount" "I") (by decide +kernel)
  unfold f_X7_clear at hf
  refine lv_aload_n hx hb dX7_clear_0 rfl (lv_at hl 0 rfl) ?_
  refine lv_iconst (v := 0) hx hb dX7_clear_1 (by decide) ?_
  refine va_put (D := D) (ci := 7) (v := .int 0) (ty := .int) (C := RX7) (T := TX7) (N := 8) hx hb hts in_X7 tyX7 tyX7_ok nmX7 hown hK hP hD hS 0 rfl rfl 0 (by decide) lk_30 (fun _ h9 => h9) rfl (by decide +kernel) rfl rfl (Nat.le_of_ble_eq_true rfl) dX7_clear_2 (fun H locs hP hD hS => ?_)
  have hP : va_P D vwCl (w_X7_clear kc a0 a1 a2 a3 a4 a5 a6 0 turnCount) H := hP
  have hD : va_D A (w_X7_clear kc a0 a1 a2 a3 a4 a5 a6 0 turnCount) := hD
  refine lv_aload_n hx hb dX7_clear_5 rfl (lv_at hl 0 rfl) ?_
  refine lv_iconst (v := 0) hx hb dX7_clear_6 (by decide) ?_
  refine va_put (D := D) (ci := 7) (v := .int 0) (ty := .int) (C := RX7) (T := TX7) (N := 8) hx hb hts in_X7 tyX7 tyX7_ok nmX7 hown hK hP hD hS 0 rfl rfl 1 (by decide) lk_34 (fun _ h9 => h9) rfl (by decide +kernel) rfl rfl (Nat.le_of_ble_eq_true rfl) dX7_clear_7 (fun H locs hP hD hS => ?_)
  have hP : va_P D vwCl (w_X7_clear kc a0 a1 a2 a3 a4 a5 a6 0 0) H := hP
  have hD : va_D A (w_X7_clear kc a0 a1 a2 a3 a4 a5 a6 0 0) := hD
  cases hf
  exact kR _ _ _ _ hP hD hS dX7_clear_10
abbrev w_X7_has (kc : Nat → ClassId) (a0 a1 a2 a3 a4 a5 a6 : Nat) (count : Int32) (turnCount : Int32) : va_W := [(a0, .inr (7, [.int count, .int turnCount, .ref a1, .ref a2, .ref a3, .ref a4, .ref a5, .ref a6]))]
set_option maxHeartbeats 4000000 in
set_option maxRecDepth 100000 in
theorem c_X7_has (l : Launch) (D : va_G) (kc : Nat → ClassId) (N : Nat) (a0 a1 a2 a3 a4 a5 a6 : Nat) (count : Int32) (turnCount : Int32) (x1 : Int32) (r_ : Int32) (hf : f_X7_has N count x1 = some r_) : MZ l yX7_has wsX7_has ({ frames := 0, cells := 0, slots := 0, locals := 0 }) D kc [.ref a0, .int x1] (w_X7_has kc a0 a1 a2 a3 a4 a5 a6 count turnCount) (w_X7_has kc a0 a1 a2 a3 a4 a5 a6 count turnCount) r_ := by
  refine gM_Z (cc := cX7_has) (maxL := 2) (by decide) rfl (Nat.le_of_ble_eq_true rfl) ?_
  intro p e s m below meth c A ls Q hx hb hml hown hts hN hK hP hD hA hl kR
  have hS : va_S A s.heap s.heap [] := va_S.rf
  have hl : lv_has ls 2 [(0, .ref a0), (1, .int x1)] := hl
  have in_X7 : ∀ w ∈ u_ws RX7 TX7 8, w ∈ wsX7_has := by decide +kernel
  have lk_30 := hts (.fieldLink RX7 30 "BalloonMail$Winds" "count" "I") (by decide +kernel)
  unfold f_X7_has at hf
  refine lv_iload_n hx hb dX7_has_0 rfl (lv_at hl 1 rfl) ?_
  refine lv_if_lt (tgt := 16) hx hb dX7_has_1 (by decide) (fun hc => ?_) (fun hc => ?_)
  · have hf := o_t hc hf
    refine lv_iconst (v := 0) hx hb dX7_has_16 (by decide) ?_
    cases hf
    exact kR _ _ _ _ (Or.inl rfl) hP hD hS dX7_has_17
  · have hf := o_f hc hf
    refine lv_iload_n hx hb dX7_has_4 rfl (lv_at hl 1 rfl) ?_
    refine lv_aload_n hx hb dX7_has_5 rfl (lv_at hl 0 rfl) ?_
    refine va_get (D := D) (ci := 7) (v := .int count) (C := RX7) (T := TX7) (N := 8) hx hb hts in_X7 hown hK hP 0 rfl rfl 0 (by decide) lk_30 (fun _ h9 => h9) rfl dX7_has_6 ?_
    refine lv_icmp_ge (tgt := 16) hx hb dX7_has_9 (by decide) (fun hc => ?_) (fun hc => ?_)
    · have hf := o_t hc hf
      refine lv_iconst (v := 0) hx hb dX7_has_16 (by decide) ?_
      cases hf
      exact kR _ _ _ _ (Or.inl rfl) hP hD hS dX7_has_17
    · have hf := o_f hc hf
      refine lv_iconst (v := 1) hx hb dX7_has_12 (by decide) ?_
      refine lv_goto (tgt := 17) hx hb dX7_has_13 (by decide) ?_
      cases hf
      exact kR _ _ _ _ (Or.inr rfl) hP hD hS dX7_has_17
abbrev w_X7_followTenths (kc : Nat → ClassId) (a0 a1 a2 a3 a4 a5 a6 : Nat) (count : Int32) (turnCount : Int32) (follow : Nat → Int32) : va_W := [(a0, .inr (7, [.int count, .int turnCount, .ref a1, .ref a2, .ref a3, .ref a4, .ref a5, .ref a6])), (a3, .inl (kc 1, 36, .inl follow))]
set_option maxHeartbeats 4000000 in
set_option maxRecDepth 100000 in
theorem c_X7_followTenths (l : Launch) (D : va_G) (kc : Nat → ClassId) (N : Nat) (a0 a1 a2 a3 a4 a5 a6 : Nat) (count : Int32) (turnCount : Int32) (follow : Nat → Int32) (x1 : Int32) (x2 : Int32) (r_ : Int32) (hf : f_X7_followTenths N count follow x1 x2 = some r_) : MI l yX7_followTenths wsX7_followTenths ({ frames := 0, cells := 0, slots := 0, locals := 0 }) D kc [.ref a0, .int x1, .int x2] (w_X7_followTenths kc a0 a1 a2 a3 a4 a5 a6 count turnCount follow) (w_X7_followTenths kc a0 a1 a2 a3 a4 a5 a6 count turnCount follow) r_ := by
  refine gM_I (cc := cX7_followTenths) (maxL := 3) (by decide) rfl (Nat.le_of_ble_eq_true rfl) ?_
  intro p e s m below meth c A ls Q hx hb hml hown hts hN hK hP hD hA hl kR
  have hS : va_S A s.heap s.heap [] := va_S.rf
  have hl : lv_has ls 3 [(0, .ref a0), (1, .int x1), (2, .int x2)] := hl
  have in_X7 : ∀ w ∈ u_ws RX7 TX7 8, w ∈ wsX7_followTenths := by decide +kernel
  have lk_30 := hts (.fieldLink RX7 30 "BalloonMail$Winds" "count" "I") (by decide +kernel)
  have lk_18 := hts (.fieldLink RX7 18 "BalloonMail$Winds" "follow" "[I") (by decide +kernel)
  unfold f_X7_followTenths at hf
  refine lv_iload_n hx hb dX7_followTenths_0 rfl (lv_at hl 1 rfl) ?_
  refine lv_if_lt (tgt := 24) hx hb dX7_followTenths_1 (by decide) (fun hc => ?_) (fun hc => ?_)
  · have hf := o_t hc hf
    refine lv_iconst (v := 0) hx hb dX7_followTenths_24 (by decide) ?_
    cases hf
    exact kR _ _ _ _ hP hD hS dX7_followTenths_25
  · have hf := o_f hc hf
    refine lv_iload_n hx hb dX7_followTenths_4 rfl (lv_at hl 1 rfl) ?_
    refine lv_aload_n hx hb dX7_followTenths_5 rfl (lv_at hl 0 rfl) ?_
    refine va_get (D := D) (ci := 7) (v := .int count) (C := RX7) (T := TX7) (N := 8) hx hb hts in_X7 hown hK hP 0 rfl rfl 0 (by decide) lk_30 (fun _ h9 => h9) rfl dX7_followTenths_6 ?_
    refine lv_icmp_ge (tgt := 24) hx hb dX7_followTenths_9 (by decide) (fun hc => ?_) (fun hc => ?_)
    · have hf := o_t hc hf
      refine lv_iconst (v := 0) hx hb dX7_followTenths_24 (by decide) ?_
      cases hf
      exact kR _ _ _ _ hP hD hS dX7_followTenths_25
    · have hf := o_f hc hf
      refine lv_iload_n hx hb dX7_followTenths_12 rfl (lv_at hl 2 rfl) ?_
      refine lv_if_lt (tgt := 24) hx hb dX7_followTenths_13 (by decide) (fun hc => ?_) (fun hc => ?_)
      · have hf := o_t hc hf
        refine lv_iconst (v := 0) hx hb dX7_followTenths_24 (by decide) ?_
        cases hf
        exact kR _ _ _ _ hP hD hS dX7_followTenths_25
      · have hf := o_f hc hf
        refine lv_iload_n hx hb dX7_followTenths_16 rfl (lv_at hl 2 rfl) ?_
        refine lv_aload_n hx hb dX7_followTenths_17 rfl (lv_at hl 0 rfl) ?_
        refine va_get (D := D) (ci := 7) (v := .int count) (C := RX7) (T := TX7) (N := 8) hx hb hts in_X7 hown hK hP 0 rfl rfl 0 (by decide) lk_30 (fun _ h9 => h9) rfl dX7_followTenths_18 ?_
        refine lv_icmp_lt (tgt := 26) hx hb dX7_followTenths_21 (by decide) (fun hc => ?_) (fun hc => ?_)
        · have hf := o_t hc hf
          refine lv_aload_n hx hb dX7_followTenths_26 rfl (lv_at hl 0 rfl) ?_
          refine va_get (D := D) (ci := 7) (v := .ref a3) (C := RX7) (T := TX7) (N := 8) hx hb hts in_X7 hown hK hP 0 rfl rfl 4 (by decide) lk_18 (fun _ h9 => h9) rfl dX7_followTenths_27 ?_
          refine lv_iload_n hx hb dX7_followTenths_30 rfl (lv_at hl 1 rfl) ?_
          refine lv_bipush (v := 6) hx hb dX7_followTenths_31 (by decide) ?_
          refine lv_imul hx hb dX7_followTenths_33 ?_
          refine lv_iload_n hx hb dX7_followTenths_34 rfl (lv_at hl 2 rfl) ?_
          refine lv_iadd hx hb dX7_followTenths_35 ?_
          obtain ⟨hi, hf⟩ := gIx_some hf
          refine va_iald hx hb hK hP 1 1 rfl rfl hi dX7_followTenths_36 ?_
          cases hf
          exact kR _ _ _ _ hP hD hS dX7_followTenths_37
        · have hf := o_f hc hf
          refine lv_iconst (v := 0) hx hb dX7_followTenths_24 (by decide) ?_
          cases hf
          exact kR _ _ _ _ hP hD hS dX7_followTenths_25
abbrev w_X7_landTenths (kc : Nat → ClassId) (a0 a1 a2 a3 a4 a5 a6 : Nat) (count : Int32) (turnCount : Int32) (land : Nat → Int32) : va_W := [(a0, .inr (7, [.int count, .int turnCount, .ref a1, .ref a2, .ref a3, .ref a4, .ref a5, .ref a6])), (a4, .inl (kc 1, 54, .inl land))]
set_option maxHeartbeats 4000000 in
set_option maxRecDepth 100000 in
theorem c_X7_landTenths (l : Launch) (D : va_G) (kc : Nat → ClassId) (N : Nat) (a0 a1 a2 a3 a4 a5 a6 : Nat) (count : Int32) (turnCount : Int32) (land : Nat → Int32) (x1 : Int32) (x2 : Int32) (r_ : Int32) (hf : f_X7_landTenths N count land x1 x2 = some r_) : MI l yX7_landTenths wsX7_landTenths ({ frames := 0, cells := 0, slots := 0, locals := 0 }) D kc [.ref a0, .int x1, .int x2] (w_X7_landTenths kc a0 a1 a2 a3 a4 a5 a6 count turnCount land) (w_X7_landTenths kc a0 a1 a2 a3 a4 a5 a6 count turnCount land) r_ := by
  refine gM_I (cc := cX7_landTenths) (maxL := 3) (by decide) rfl (Nat.le_of_ble_eq_true rfl) ?_
  intro p e s m below meth c A ls Q hx hb hml hown hts hN hK hP hD hA hl kR
  have hS : va_S A s.heap s.heap [] := va_S.rf
  have hl : lv_has ls 3 [(0, .ref a0), (1, .int x1), (2, .int x2)] := hl
  have in_X7 : ∀ w ∈ u_ws RX7 TX7 8, w ∈ wsX7_landTenths := by decide +kernel
  have lk_30 := hts (.fieldLink RX7 30 "BalloonMail$Winds" "count" "I") (by decide +kernel)
  have lk_21 := hts (.fieldLink RX7 21 "BalloonMail$Winds" "land" "[I") (by decide +kernel)
  unfold f_X7_landTenths at hf
  refine lv_iload_n hx hb dX7_landTenths_0 rfl (lv_at hl 1 rfl) ?_
  refine lv_if_lt (tgt := 22) hx hb dX7_landTenths_1 (by decide) (fun hc => ?_) (fun hc => ?_)
  · have hf := o_t hc hf
    refine lv_iconst (v := 0) hx hb dX7_landTenths_22 (by decide) ?_
    cases hf
    exact kR _ _ _ _ hP hD hS dX7_landTenths_23
  · have hf := o_f hc hf
    refine lv_iload_n hx hb dX7_landTenths_4 rfl (lv_at hl 1 rfl) ?_
    refine lv_aload_n hx hb dX7_landTenths_5 rfl (lv_at hl 0 rfl) ?_
    refine va_get (D := D) (ci := 7) (v := .int count) (C := RX7) (T := TX7) (N := 8) hx hb hts in_X7 hown hK hP 0 rfl rfl 0 (by decide) lk_30 (fun _ h9 => h9) rfl dX7_landTenths_6 ?_
    refine lv_icmp_ge (tgt := 22) hx hb dX7_landTenths_9 (by decide) (fun hc => ?_) (fun hc => ?_)
    · have hf := o_t hc hf
      refine lv_iconst (v := 0) hx hb dX7_landTenths_22 (by decide) ?_
      cases hf
      exact kR _ _ _ _ hP hD hS dX7_landTenths_23
    · have hf := o_f hc hf
      refine lv_iload_n hx hb dX7_landTenths_12 rfl (lv_at hl 2 rfl) ?_
      refine lv_if_lt (tgt := 22) hx hb dX7_landTenths_13 (by decide) (fun hc => ?_) (fun hc => ?_)
      · have hf := o_t hc hf
        refine lv_iconst (v := 0) hx hb dX7_landTenths_22 (by decide) ?_
        cases hf
        exact kR _ _ _ _ hP hD hS dX7_landTenths_23
      · have hf := o_f hc hf
        refine lv_iload_n hx hb dX7_landTenths_16 rfl (lv_at hl 2 rfl) ?_
        refine lv_bipush (v := 9) hx hb dX7_landTenths_17 (by decide) ?_
        refine lv_icmp_lt (tgt := 24) hx hb dX7_landTenths_19 (by decide) (fun hc => ?_) (fun hc => ?_)
        · have hf := o_t hc hf
          refine lv_aload_n hx hb dX7_landTenths_24 rfl (lv_at hl 0 rfl) ?_
          refine va_get (D := D) (ci := 7) (v := .ref a4) (C := RX7) (T := TX7) (N := 8) hx hb hts in_X7 hown hK hP 0 rfl rfl 5 (by decide) lk_21 (fun _ h9 => h9) rfl dX7_landTenths_25 ?_
          refine lv_iload_n hx hb dX7_landTenths_28 rfl (lv_at hl 1 rfl) ?_
          refine lv_bipush (v := 9) hx hb dX7_landTenths_29 (by decide) ?_
          refine lv_imul hx hb dX7_landTenths_31 ?_
          refine lv_iload_n hx hb dX7_landTenths_32 rfl (lv_at hl 2 rfl) ?_
          refine lv_iadd hx hb dX7_landTenths_33 ?_
          obtain ⟨hi, hf⟩ := gIx_some hf
          refine va_iald hx hb hK hP 1 1 rfl rfl hi dX7_landTenths_34 ?_
          cases hf
          exact kR _ _ _ _ hP hD hS dX7_landTenths_35
        · have hf := o_f hc hf
          refine lv_iconst (v := 0) hx hb dX7_landTenths_22 (by decide) ?_
          cases hf
          exact kR _ _ _ _ hP hD hS dX7_landTenths_23
abbrev w_X7_addTurn (kc : Nat → ClassId) (a0 a1 a2 a3 a4 a5 a6 : Nat) (count : Int32) (turnCount : Int32) (turnFrom : Nat → Int32) (turnTo : Nat → Int32) (follow : Nat → Int32) : va_W := [(a0, .inr (7, [.int count, .int turnCount, .ref a1, .ref a2, .ref a3, .ref a4, .ref a5, .ref a6])), (a1, .inl (kc 1, 30, .inl turnFrom)), (a2, .inl (kc 1, 30, .inl turnTo)), (a3, .inl (kc 1, 36, .inl follow))]
set_option maxHeartbeats 4000000 in
set_option maxRecDepth 100000 in
theorem c_X7_addTurn (l : Launch) (D : va_G) (kc : Nat → ClassId) (N : Nat) (a0 a1 a2 a3 a4 a5 a6 : Nat) (count : Int32) (turnCount : Int32) (turnFrom : Nat → Int32) (turnTo : Nat → Int32) (follow : Nat → Int32) (x1 : Int32) (x2 : Int32) (x3 : Int32) (turnCount' : Int32) (turnFrom' : Nat → Int32) (turnTo' : Nat → Int32) (follow' : Nat → Int32) (hf : f_X7_addTurn N count turnCount turnFrom turnTo follow x1 x2 x3 = some (turnCount', turnFrom', turnTo', follow')) : MV l yX7_addTurn wsX7_addTurn ({ frames := 1, cells := 0, slots := 0, locals := 21 }) D kc [.ref a0, .int x1, .int x2, .int x3] (w_X7_addTurn kc a0 a1 a2 a3 a4 a5 a6 count turnCount turnFrom turnTo follow) (w_X7_addTurn kc a0 a1 a2 a3 a4 a5 a6 count turnCount' turnFrom' turnTo' follow') := by
  refine gM_V (cc := cX7_addTurn) (maxL := 4) (by decide) rfl (Nat.le_of_ble_eq_true rfl) ?_
  intro p e s m below meth c A ls Q hx hb hml hown hts hN hK hP hD hA hl kR
  have hS : va_S A s.heap s.heap [] := va_S.rf
  have hl : lv_has ls 4 [(0, .ref a0), (1, .int x1), (2, .int x2), (3, .int x3)] := hl
  have in_X7 : ∀ w ∈ u_ws RX7 TX7 8, w ∈ wsX7_addTurn := by decide +kernel
  have lk_34 := hts (.fieldLink RX7 34 "BalloonMail$Winds" "turnCount" "I") (by decide +kernel)
  have lk_9 := hts (.fieldLink RX7 9 "BalloonMail$Winds" "turnFrom" "[I") (by decide +kernel)
  have lk_15 := hts (.fieldLink RX7 15 "BalloonMail$Winds" "turnTo" "[I") (by decide +kernel)
  have lk_18 := hts (.fieldLink RX7 18 "BalloonMail$Winds" "follow" "[I") (by decide +kernel)
  unfold f_X7_addTurn at hf
  refine lv_aload_n hx hb dX7_addTurn_0 rfl (lv_at hl 0 rfl) ?_
  refine lv_iload_n hx hb dX7_addTurn_1 rfl (lv_at hl 1 rfl) ?_
  obtain ⟨r_1, hc, hf⟩ := ob1_some hf
  refine g_VZ (As := [.int x1]) (rest := []) (ws' := (w_X7_addTurn kc a0 a1 a2 a3 a4 a5 a6 count turnCount turnFrom turnTo follow)) ⟨hx, hb, hml, hown, hts⟩ hN hK hP hD hS hA (c_X7_has l D kc N a0 a1 a2 a3 a4 a5 a6 count turnCount x1 r_1 hc) (cwV 1 hts gX7_addTurn_X7_has rfl rfl rfl (by decide +kernel) ⟨Nat.le_of_ble_eq_true rfl, Nat.le_of_ble_eq_true rfl⟩) [0] [1, 2, 3] [3, 0, 1, 2] (by exact ⟨rfl, rfl, by decide, rfl⟩) 0 7 rfl rfl rfl rfl hl.1 rfl (Nat.le_of_ble_eq_true rfl) dX7_addTurn_2 ⟨Nat.le_refl _, Nat.le_refl _⟩ (fun H locs hz hP hD hS => ?_)
  have hz_2 := hz
  refine lv_if_eq (tgt := 85) hx hb dX7_addTurn_5 (by decide) (fun hc => ?_) (fun hc => ?_)
  · have hf := o_t hc hf
    cases hf
    exact kR _ _ _ _ hP hD hS dX7_addTurn_85
  · have hf := o_f hc hf
    refine lv_aload_n hx hb dX7_addTurn_8 rfl (lv_at hl 0 rfl) ?_
    refine lv_iload_n hx hb dX7_addTurn_9 rfl (lv_at hl 2 rfl) ?_
    obtain ⟨r_3, hc, hf⟩ := ob1_some hf
    refine g_VZ (As := [.int x2]) (rest := []) (ws' := (w_X7_addTurn kc a0 a1 a2 a3 a4 a5 a6 count turnCount turnFrom turnTo follow)) ⟨hx, hb, hml, hown, hts⟩ hN hK hP hD hS hA (c_X7_has l D kc N a0 a1 a2 a3 a4 a5 a6 count turnCount x2 r_3 hc) (cwV 1 hts gX7_addTurn_X7_has rfl rfl rfl (by decide +kernel) ⟨Nat.le_of_ble_eq_true rfl, Nat.le_of_ble_eq_true rfl⟩) [0] [1, 2, 3] [3, 0, 1, 2] (by exact ⟨rfl, rfl, by decide, rfl⟩) 0 7 rfl rfl rfl rfl hl.1 rfl (Nat.le_of_ble_eq_true rfl) dX7_addTurn_10 ⟨Nat.le_refl _, Nat.le_refl _⟩ (fun H locs hz hP hD hS => ?_)
    have hz_4 := hz
    refine lv_if_eq (tgt := 85) hx hb dX7_addTurn_13 (by decide) (fun hc => ?_) (fun hc => ?_)
    · have hf := o_t hc hf
      cases hf
      exact kR _ _ _ _ hP hD hS dX7_addTurn_85
    · have hf := o_f hc hf
      refine lv_aload_n hx hb dX7_addTurn_16 rfl (lv_at hl 0 rfl) ?_
      refine va_get (D := D) (ci := 7) (v := .int turnCount) (C := RX7) (T := TX7) (N := 8) hx hb hts in_X7 hown hK hP 0 rfl rfl 1 (by decide) lk_34 (fun _ h9 => h9) rfl dX7_addTurn_17 ?_
      refine lv_bipush (v := 30) hx hb dX7_addTurn_20 (by decide) ?_
      refine lv_icmp_ge (tgt := 85) hx hb dX7_addTurn_22 (by decide) (fun hc => ?_) (fun hc => ?_)
      · have hf := o_t hc hf
        cases hf
        exact kR _ _ _ _ hP hD hS dX7_addTurn_85
      · have hf := o_f hc hf
        refine lv_aload_n hx hb dX7_addTurn_25 rfl (lv_at hl 0 rfl) ?_
        refine va_get (D := D) (ci := 7) (v := .ref a1) (C := RX7) (T := TX7) (N := 8) hx hb hts in_X7 hown hK hP 0 rfl rfl 2 (by decide) lk_9 (fun _ h9 => h9) rfl dX7_addTurn_26 ?_
        refine lv_aload_n hx hb dX7_addTurn_29 rfl (lv_at hl 0 rfl) ?_
        refine va_get (D := D) (ci := 7) (v := .int turnCount) (C := RX7) (T := TX7) (N := 8) hx hb hts in_X7 hown hK hP 0 rfl rfl 1 (by decide) lk_34 (fun _ h9 => h9) rfl dX7_addTurn_30 ?_
        refine lv_iload_n hx hb dX7_addTurn_33 rfl (lv_at hl 1 rfl) ?_
        obtain ⟨hi, hf⟩ := gIx_some hf
        refine va_iast hx hb hK hP hD hS 1 1 rfl rfl hi dX7_addTurn_34 (fun H locs hP hD hS => ?_)
        have hP : va_P D vwCl (w_X7_addTurn kc a0 a1 a2 a3 a4 a5 a6 count turnCount (upd turnFrom (turnCount : Int32).toNatClampNeg x1) turnTo follow) H := hP
        have hD : va_D A (w_X7_addTurn kc a0 a1 a2 a3 a4 a5 a6 count turnCount (upd turnFrom (turnCount : Int32).toNatClampNeg x1) turnTo follow) := hD
        refine lv_aload_n hx hb dX7_addTurn_35 rfl (lv_at hl 0 rfl) ?_
        refine va_get (D := D) (ci := 7) (v := .ref a2) (C := RX7) (T := TX7) (N := 8) hx hb hts in_X7 hown hK hP 0 rfl rfl 3 (by decide) lk_15 (fun _ h9 => h9) rfl dX7_addTurn_36 ?_
        refine lv_aload_n hx hb dX7_addTurn_39 rfl (lv_at hl 0 rfl) ?_
        refine va_get (D := D) (ci := 7) (v := .int turnCount) (C := RX7) (T := TX7) (N := 8) hx hb hts in_X7 hown hK hP 0 rfl rfl 1 (by decide) lk_34 (fun _ h9 => h9) rfl dX7_addTurn_40 ?_
        refine lv_iload_n hx hb dX7_addTurn_43 rfl (lv_at hl 2 rfl) ?_
        obtain ⟨hi, hf⟩ := gIx_some hf
        refine va_iast hx hb hK hP hD hS 2 1 rfl rfl hi dX7_addTurn_44 (fun H locs hP hD hS => ?_)
        have hP : va_P D vwCl (w_X7_addTurn kc a0 a1 a2 a3 a4 a5 a6 count turnCount (upd turnFrom (turnCount : Int32).toNatClampNeg x1) (upd turnTo (turnCount : Int32).toNatClampNeg x2) follow) H := hP
        have hD : va_D A (w_X7_addTurn kc a0 a1 a2 a3 a4 a5 a6 count turnCount (upd turnFrom (turnCount : Int32).toNatClampNeg x1) (upd turnTo (turnCount : Int32).toNatClampNeg x2) follow) := hD
        refine lv_aload_n hx hb dX7_addTurn_45 rfl (lv_at hl 0 rfl) ?_
        refine lv_dup hx hb dX7_addTurn_46 rfl ?_
        refine va_get (D := D) (ci := 7) (v := .int turnCount) (C := RX7) (T := TX7) (N := 8) hx hb hts in_X7 hown hK hP 0 rfl rfl 1 (by decide) lk_34 (fun _ h9 => h9) rfl dX7_addTurn_47 ?_
        refine lv_iconst (v := 1) hx hb dX7_addTurn_50 (by decide) ?_
        refine lv_iadd hx hb dX7_addTurn_51 ?_
        refine va_put (D := D) (ci := 7) (v := .int (turnCount + 1)) (ty := .int) (C := RX7) (T := TX7) (N := 8) hx hb hts in_X7 tyX7 tyX7_ok nmX7 hown hK hP hD hS 0 rfl rfl 1 (by decide) lk_34 (fun _ h9 => h9) rfl (by decide +kernel) rfl rfl (Nat.le_of_ble_eq_true rfl) dX7_addTurn_52 (fun H locs hP hD hS => ?_)
        have hP : va_P D vwCl (w_X7_addTurn kc a0 a1 a2 a3 a4 a5 a6 count (turnCount + 1) (upd turnFrom (turnCount : Int32).toNatClampNeg x1) (upd turnTo (turnCount : Int32).toNatClampNeg x2) follow) H := hP
        have hD : va_D A (w_X7_addTurn kc a0 a1 a2 a3 a4 a5 a6 count (turnCount + 1) (upd turnFrom (turnCount : Int32).toNatClampNeg x1) (upd turnTo (turnCount : Int32).toNatClampNeg x2) follow) := hD
        refine lv_aload_n hx hb dX7_addTurn_55 rfl (lv_at hl 0 rfl) ?_
        refine va_get (D := D) (ci := 7) (v := .ref a3) (C := RX7) (T := TX7) (N := 8) hx hb hts in_X7 hown hK hP 0 rfl rfl 4 (by decide) lk_18 (fun _ h9 => h9) rfl dX7_addTurn_56 ?_
        refine lv_iload_n hx hb dX7_addTurn_59 rfl (lv_at hl 1 rfl) ?_
        refine lv_bipush (v := 6) hx hb dX7_addTurn_60 (by decide) ?_
        refine lv_imul hx hb dX7_addTurn_62 ?_
        refine lv_iload_n hx hb dX7_addTurn_63 rfl (lv_at hl 2 rfl) ?_
        refine lv_iadd hx hb dX7_addTurn_64 ?_
        refine lv_dup2_11 hx hb dX7_addTurn_65 rfl rfl ?_
        obtain ⟨hi, hf⟩ := gIx_some hf
        refine va_iald hx hb hK hP 3 1 rfl rfl hi dX7_addTurn_66 ?_
        refine lv_iload_n hx hb dX7_addTurn_67 rfl (lv_at hl 3 rfl) ?_
        refine lv_iadd hx hb dX7_addTurn_68 ?_
        obtain ⟨hi, hf⟩ := gIx_some hf
        refine va_iast hx hb hK hP hD hS 3 1 rfl rfl hi dX7_addTurn_69 (fun H locs hP hD hS => ?_)
        have hP : va_P D vwCl (w_X7_addTurn kc a0 a1 a2 a3 a4 a5 a6 count (turnCount + 1) (upd turnFrom (turnCount : Int32).toNatClampNeg x1) (upd turnTo (turnCount : Int32).toNatClampNeg x2) (upd follow (((x1 * 6) + x2) : Int32).toNatClampNeg ((follow (((x1 * 6) + x2) : Int32).toNatClampNeg) + x3))) H := hP
        have hD : va_D A (w_X7_addTurn kc a0 a1 a2 a3 a4 a5 a6 count (turnCount + 1) (upd turnFrom (turnCount : Int32).toNatClampNeg x1) (upd turnTo (turnCount : Int32).toNatClampNeg x2) (upd follow (((x1 * 6) + x2) : Int32).toNatClampNeg ((follow (((x1 * 6) + x2) : Int32).toNatClampNeg) + x3))) := hD
        refine lv_aload_n hx hb dX7_addTurn_70 rfl (lv_at hl 0 rfl) ?_
        refine va_get (D := D) (ci := 7) (v := .ref a3) (C := RX7) (T := TX7) (N := 8) hx hb hts in_X7 hown hK hP 0 rfl rfl 4 (by decide) lk_18 (fun _ h9 => h9) rfl dX7_addTurn_71 ?_
        refine lv_iload_n hx hb dX7_addTurn_74 rfl (lv_at hl 1 rfl) ?_
        refine lv_bipush (v := 6) hx hb dX7_addTurn_75 (by decide) ?_
        refine lv_imul hx hb dX7_addTurn_77 ?_
        refine lv_iload_n hx hb dX7_addTurn_78 rfl (lv_at hl 1 rfl) ?_
        refine lv_iadd hx hb dX7_addTurn_79 ?_
        refine lv_dup2_11 hx hb dX7_addTurn_80 rfl rfl ?_
        obtain ⟨hi, hf⟩ := gIx_some hf
        refine va_iald hx hb hK hP 3 1 rfl rfl hi dX7_addTurn_81 ?_
        refine lv_iload_n hx hb dX7_addTurn_82 rfl (lv_at hl 3 rfl) ?_
        refine lv_isub hx hb dX7_addTurn_83 ?_
        obtain ⟨hi, hf⟩ := gIx_some hf
        refine va_iast hx hb hK hP hD hS 3 1 rfl rfl hi dX7_addTurn_84 (fun H locs hP hD hS => ?_)
        have hP : va_P D vwCl (w_X7_addTurn kc a0 a1 a2 a3 a4 a5 a6 count (turnCount + 1) (upd turnFrom (turnCount : Int32).toNatClampNeg x1) (upd turnTo (turnCount : Int32).toNatClampNeg x2) (upd (upd follow (((x1 * 6) + x2) : Int32).toNatClampNeg ((follow (((x1 * 6) + x2) : Int32).toNatClampNeg) + x3)) (((x1 * 6) + x1) : Int32).toNatClampNeg (((upd follow (((x1 * 6) + x2) : Int32).toNatClampNeg ((follow (((x1 * 6) + x2) : Int32).toNatClampNeg) + x3)) (((x1 * 6) + x1) : Int32).toNatClampNeg) - x3))) H := hP
        have hD : va_D A (w_X7_addTurn kc a0 a1 a2 a3 a4 a5 a6 count (turnCount + 1) (upd turnFrom (turnCount : Int32).toNatClampNeg x1) (upd turnTo (turnCount : Int32).toNatClampNeg x2) (upd (upd follow (((x1 * 6) + x2) : Int32).toNatClampNeg ((follow (((x1 * 6) + x2) : Int32).toNatClampNeg) + x3)) (((x1 * 6) + x1) : Int32).toNatClampNeg (((upd follow (((x1 * 6) + x2) : Int32).toNatClampNeg ((follow (((x1 * 6) + x2) : Int32).toNatClampNeg) + x3)) (((x1 * 6) + x1) : Int32).toNatClampNeg) - x3))) := hD
        cases hf
        exact kR _ _ _ _ hP hD hS dX7_addTurn_85
abbrev w_X7_addAim (kc : Nat → ClassId) (a0 a1 a2 a3 a4 a5 a6 : Nat) (count : Int32) (turnCount : Int32) (aimCount : Nat → Int32) (aim : Nat → Int32) (land : Nat → Int32) : va_W := [(a0, .inr (7, [.int count, .int turnCount, .ref a1, .ref a2, .ref a3, .ref a4, .ref a5, .ref a6])), (a5, .inl (kc 1, 6, .inl aimCount)), (a6, .inl (kc 1, 48, .inl aim)), (a4, .inl (kc 1, 54, .inl land))]
set_option maxHeartbeats 4000000 in
set_option maxRecDepth 100000 in
theorem c_X7_addAim (l : Launch) (D : va_G) (kc : Nat → ClassId) (N : Nat) (a0 a1 a2 a3 a4 a5 a6 : Nat) (count : Int32) (turnCount : Int32) (aimCount : Nat → Int32) (aim : Nat → Int32) (land : Nat → Int32) (x1 : Int32) (x2 : Int32) (x3 : Int32) (aimCount' : Nat → Int32) (aim' : Nat → Int32) (land' : Nat → Int32) (hf : f_X7_addAim N count aimCount aim land x1 x2 x3 = some (aimCount', aim', land')) : MV l yX7_addAim wsX7_addAim ({ frames := 1, cells := 0, slots := 0, locals := 21 }) D kc [.ref a0, .int x1, .int x2, .int x3] (w_X7_addAim kc a0 a1 a2 a3 a4 a5 a6 count turnCount aimCount aim land) (w_X7_addAim kc a0 a1 a2 a3 a4 a5 a6 count turnCount aimCount' aim' land') := by
  refine gM_V (cc := cX7_addAim) (maxL := 5) (by decide) rfl (Nat.le_of_ble_eq_true rfl) ?_
  intro p e s m below meth c A ls Q hx hb hml hown hts hN hK hP hD hA hl kR
  have hS : va_S A s.heap s.heap [] := va_S.rf
  have hl : lv_has ls 5 [(0, .ref a0), (1, .int x1), (2, .int x2), (3, .int x3)] := hl
  have in_X7 : ∀ w ∈ u_ws RX7 TX7 8, w ∈ wsX7_addAim := by decide +kernel
  have lk_24 := hts (.fieldLink RX7 24 "BalloonMail$Winds" "aimCount" "[I") (by decide +kernel)
  have lk_27 := hts (.fieldLink RX7 27 "BalloonMail$Winds" "aim" "[I") (by decide +kernel)
  have lk_21 := hts (.fieldLink RX7 21 "BalloonMail$Winds" "land" "[I") (by decide +kernel)
  unfold f_X7_addAim at hf
  refine lv_aload_n hx hb dX7_addAim_0 rfl (lv_at hl 0 rfl) ?_
  refine lv_iload_n hx hb dX7_addAim_1 rfl (lv_at hl 1 rfl) ?_
  obtain ⟨r_1, hc, hf⟩ := ob1_some hf
  refine g_VZ (As := [.int x1]) (rest := []) (ws' := (w_X7_addAim kc a0 a1 a2 a3 a4 a5 a6 count turnCount aimCount aim land)) ⟨hx, hb, hml, hown, hts⟩ hN hK hP hD hS hA (c_X7_has l D kc N a0 a1 a2 a3 a4 a5 a6 count turnCount x1 r_1 hc) (cwV 1 hts gX7_addAim_X7_has rfl rfl rfl (by decide +kernel) ⟨Nat.le_of_ble_eq_true rfl, Nat.le_of_ble_eq_true rfl⟩) [0] [1, 2, 3] [3, 0, 1, 2] (by exact ⟨rfl, rfl, by decide, rfl⟩) 0 7 rfl rfl rfl rfl hl.1 rfl (Nat.le_of_ble_eq_true rfl) dX7_addAim_2 ⟨Nat.le_refl _, Nat.le_refl _⟩ (fun H locs hz hP hD hS => ?_)
  have hz_2 := hz
  refine lv_if_eq (tgt := 18) hx hb dX7_addAim_5 (by decide) (fun hc => ?_) (fun hc => ?_)
  · have hf := o_t hc hf
    cases hf
    exact kR _ _ _ _ hP hD hS dX7_addAim_18
  · have hf := o_f hc hf
    refine lv_iload_n hx hb dX7_addAim_8 rfl (lv_at hl 2 rfl) ?_
    refine lv_if_lt (tgt := 18) hx hb dX7_addAim_9 (by decide) (fun hc => ?_) (fun hc => ?_)
    · have hf := o_t hc hf
      cases hf
      exact kR _ _ _ _ hP hD hS dX7_addAim_18
    · have hf := o_f hc hf
      refine lv_iload_n hx hb dX7_addAim_12 rfl (lv_at hl 2 rfl) ?_
      refine lv_bipush (v := 8) hx hb dX7_addAim_13 (by decide) ?_
      refine lv_icmp_lt (tgt := 19) hx hb dX7_addAim_15 (by decide) (fun hc => ?_) (fun hc => ?_)
      · have hf := o_t hc hf
        refine lv_aload_n hx hb dX7_addAim_19 rfl (lv_at hl 0 rfl) ?_
        refine va_get (D := D) (ci := 7) (v := .ref a5) (C := RX7) (T := TX7) (N := 8) hx hb hts in_X7 hown hK hP 0 rfl rfl 6 (by decide) lk_24 (fun _ h9 => h9) rfl dX7_addAim_20 ?_
        refine lv_iload_n hx hb dX7_addAim_23 rfl (lv_at hl 1 rfl) ?_
        obtain ⟨hi, hf⟩ := gIx_some hf
        refine va_iald hx hb hK hP 1 1 rfl rfl hi dX7_addAim_24 ?_
        refine lv_istore (lv' := [(4, .int (aimCount (x1 : Int32).toNatClampNeg)), (0, .ref a0), (1, .int x1), (2, .int x2), (3, .int x3)]) hx hb dX7_addAim_25 hl (by decide) rfl (fun ls hl => ?_)
        refine lv_iload hx hb dX7_addAim_27 (lv_at hl 0 rfl) ?_
        refine lv_if_lt (tgt := 93) hx hb dX7_addAim_29 (by decide) (fun hc => ?_) (fun hc => ?_)
        · have hf := o_t hc hf
          cases hf
          exact kR _ _ _ _ hP hD hS dX7_addAim_93
        · have hf := o_f hc hf
          refine lv_iload hx hb dX7_addAim_32 (lv_at hl 0 rfl) ?_
          refine lv_bipush (v := 8) hx hb dX7_addAim_34 (by decide) ?_
          refine lv_icmp_ge (tgt := 93) hx hb dX7_addAim_36 (by decide) (fun hc => ?_) (fun hc => ?_)
          · have hf := o_t hc hf
            cases hf
            exact kR _ _ _ _ hP hD hS dX7_addAim_93
          · have hf := o_f hc hf
            refine lv_aload_n hx hb dX7_addAim_39 rfl (lv_at hl 1 rfl) ?_
            refine va_get (D := D) (ci := 7) (v := .ref a6) (C := RX7) (T := TX7) (N := 8) hx hb hts in_X7 hown hK hP 0 rfl rfl 7 (by decide) lk_27 (fun _ h9 => h9) rfl dX7_addAim_40 ?_
            refine lv_iload_n hx hb dX7_addAim_43 rfl (lv_at hl 2 rfl) ?_
            refine lv_bipush (v := 8) hx hb dX7_addAim_44 (by decide) ?_
            refine lv_imul hx hb dX7_addAim_46 ?_
            refine lv_iload hx hb dX7_addAim_47 (lv_at hl 0 rfl) ?_
            refine lv_iadd hx hb dX7_addAim_49 ?_
            refine lv_iload_n hx hb dX7_addAim_50 rfl (lv_at hl 3 rfl) ?_
            obtain ⟨hi, hf⟩ := gIx_some hf
            refine va_iast hx hb hK hP hD hS 2 1 rfl rfl hi dX7_addAim_51 (fun H locs hP hD hS => ?_)
            have hP : va_P D vwCl (w_X7_addAim kc a0 a1 a2 a3 a4 a5 a6 count turnCount aimCount (upd aim (((x1 * 8) + (aimCount (x1 : Int32).toNatClampNeg)) : Int32).toNatClampNeg x2) land) H := hP
            have hD : va_D A (w_X7_addAim kc a0 a1 a2 a3 a4 a5 a6 count turnCount aimCount (upd aim (((x1 * 8) + (aimCount (x1 : Int32).toNatClampNeg)) : Int32).toNatClampNeg x2) land) := hD
            refine lv_aload_n hx hb dX7_addAim_52 rfl (lv_at hl 1 rfl) ?_
            refine va_get (D := D) (ci := 7) (v := .ref a5) (C := RX7) (T := TX7) (N := 8) hx hb hts in_X7 hown hK hP 0 rfl rfl 6 (by decide) lk_24 (fun _ h9 => h9) rfl dX7_addAim_53 ?_
            refine lv_iload_n hx hb dX7_addAim_56 rfl (lv_at hl 2 rfl) ?_
            refine lv_iload hx hb dX7_addAim_57 (lv_at hl 0 rfl) ?_
            refine lv_iconst (v := 1) hx hb dX7_addAim_59 (by decide) ?_
            refine lv_iadd hx hb dX7_addAim_60 ?_
            obtain ⟨hi, hf⟩ := gIx_some hf
            refine va_iast hx hb hK hP hD hS 1 1 rfl rfl hi dX7_addAim_61 (fun H locs hP hD hS => ?_)
            have hP : va_P D vwCl (w_X7_addAim kc a0 a1 a2 a3 a4 a5 a6 count turnCount (upd aimCount (x1 : Int32).toNatClampNeg ((aimCount (x1 : Int32).toNatClampNeg) + 1)) (upd aim (((x1 * 8) + (aimCount (x1 : Int32).toNatClampNeg)) : Int32).toNatClampNeg x2) land) H := hP
            have hD : va_D A (w_X7_addAim kc a0 a1 a2 a3 a4 a5 a6 count turnCount (upd aimCount (x1 : Int32).toNatClampNeg ((aimCount (x1 : Int32).toNatClampNeg) + 1)) (upd aim (((x1 * 8) + (aimCount (x1 : Int32).toNatClampNeg)) : Int32).toNatClampNeg x2) land) := hD
            refine lv_aload_n hx hb dX7_addAim_62 rfl (lv_at hl 1 rfl) ?_
            refine va_get (D := D) (ci := 7) (v := .ref a4) (C := RX7) (T := TX7) (N := 8) hx hb hts in_X7 hown hK hP 0 rfl rfl 5 (by decide) lk_21 (fun _ h9 => h9) rfl dX7_addAim_63 ?_
            refine lv_iload_n hx hb dX7_addAim_66 rfl (lv_at hl 2 rfl) ?_
            refine lv_bipush (v := 9) hx hb dX7_addAim_67 (by decide) ?_
            refine lv_imul hx hb dX7_addAim_69 ?_
            refine lv_iload_n hx hb dX7_addAim_70 rfl (lv_at hl 3 rfl) ?_
            refine lv_iadd hx hb dX7_addAim_71 ?_
            refine lv_dup2_11 hx hb dX7_addAim_72 rfl rfl ?_
            obtain ⟨hi, hf⟩ := gIx_some hf
            refine va_iald hx hb hK hP 3 1 rfl rfl hi dX7_addAim_73 ?_
            refine lv_iload_n hx hb dX7_addAim_74 rfl (lv_at hl 4 rfl) ?_
            refine lv_iadd hx hb dX7_addAim_75 ?_
            obtain ⟨hi, hf⟩ := gIx_some hf
            refine va_iast hx hb hK hP hD hS 3 1 rfl rfl hi dX7_addAim_76 (fun H locs hP hD hS => ?_)
            have hP : va_P D vwCl (w_X7_addAim kc a0 a1 a2 a3 a4 a5 a6 count turnCount (upd aimCount (x1 : Int32).toNatClampNeg ((aimCount (x1 : Int32).toNatClampNeg) + 1)) (upd aim (((x1 * 8) + (aimCount (x1 : Int32).toNatClampNeg)) : Int32).toNatClampNeg x2) (upd land (((x1 * 9) + x2) : Int32).toNatClampNeg ((land (((x1 * 9) + x2) : Int32).toNatClampNeg) + x3))) H := hP
            have hD : va_D A (w_X7_addAim kc a0 a1 a2 a3 a4 a5 a6 count turnCount (upd aimCount (x1 : Int32).toNatClampNeg ((aimCount (x1 : Int32).toNatClampNeg) + 1)) (upd aim (((x1 * 8) + (aimCount (x1 : Int32).toNatClampNeg)) : Int32).toNatClampNeg x2) (upd land (((x1 * 9) + x2) : Int32).toNatClampNeg ((land (((x1 * 9) + x2) : Int32).toNatClampNeg) + x3))) := hD
            refine lv_aload_n hx hb dX7_addAim_77 rfl (lv_at hl 1 rfl) ?_
            refine va_get (D := D) (ci := 7) (v := .ref a4) (C := RX7) (T := TX7) (N := 8) hx hb hts in_X7 hown hK hP 0 rfl rfl 5 (by decide) lk_21 (fun _ h9 => h9) rfl dX7_addAim_78 ?_
            refine lv_iload_n hx hb dX7_addAim_81 rfl (lv_at hl 2 rfl) ?_
            refine lv_bipush (v := 9) hx hb dX7_addAim_82 (by decide) ?_
            refine lv_imul hx hb dX7_addAim_84 ?_
            refine lv_bipush (v := 8) hx hb dX7_addAim_85 (by decide) ?_
            refine lv_iadd hx hb dX7_addAim_87 ?_
            refine lv_dup2_11 hx hb dX7_addAim_88 rfl rfl ?_
            obtain ⟨hi, hf⟩ := gIx_some hf
            refine va_iald hx hb hK hP 3 1 rfl rfl hi dX7_addAim_89 ?_
            refine lv_iload_n hx hb dX7_addAim_90 rfl (lv_at hl 4 rfl) ?_
            refine lv_isub hx hb dX7_addAim_91 ?_
            obtain ⟨hi, hf⟩ := gIx_some hf
            refine va_iast hx hb hK hP hD hS 3 1 rfl rfl hi dX7_addAim_92 (fun H locs hP hD hS => ?_)
            have hP : va_P D vwCl (w_X7_addAim kc a0 a1 a2 a3 a4 a5 a6 count turnCount (upd aimCount (x1 : Int32).toNatClampNeg ((aimCount (x1 : Int32).toNatClampNeg) + 1)) (upd aim (((x1 * 8) + (aimCount (x1 : Int32).toNatClampNeg)) : Int32).toNatClampNeg x2) (upd (upd land (((x1 * 9) + x2) : Int32).toNatClampNeg ((land (((x1 * 9) + x2) : Int32).toNatClampNeg) + x3)) (((x1 * 9) + 8) : Int32).toNatClampNeg (((upd land (((x1 * 9) + x2) : Int32).toNatClampNeg ((land (((x1 * 9) + x2) : Int32).toNatClampNeg) + x3)) (((x1 * 9) + 8) : Int32).toNatClampNeg) - x3))) H := hP
            have hD : va_D A (w_X7_addAim kc a0 a1 a2 a3 a4 a5 a6 count turnCount (upd aimCount (x1 : Int32).toNatClampNeg ((aimCount (x1 : Int32).toNatClampNeg) + 1)) (upd aim (((x1 * 8) + (aimCount (x1 : Int32).toNatClampNeg)) : Int32).toNatClampNeg x2) (upd (upd land (((x1 * 9) + x2) : Int32).toNatClampNeg ((land (((x1 * 9) + x2) : Int32).toNatClampNeg) + x3)) (((x1 * 9) + 8) : Int32).toNatClampNeg (((upd land (((x1 * 9) + x2) : Int32).toNatClampNeg ((land (((x1 * 9) + x2) : Int32).toNatClampNeg) + x3)) (((x1 * 9) + 8) : Int32).toNatClampNeg) - x3))) := hD
            cases hf
            exact kR _ _ _ _ hP hD hS dX7_addAim_93
      · have hf := o_f hc hf
        cases hf
        exact kR _ _ _ _ hP hD hS dX7_addAim_18
abbrev w_X7_add (kc : Nat → ClassId) (a0 a1 a2 a3 a4 a5 a6 : Nat) (count : Int32) (turnCount : Int32) (follow : Nat → Int32) (land : Nat → Int32) (aimCount : Nat → Int32) : va_W := [(a0, .inr (7, [.int count, .int turnCount, .ref a1, .ref a2, .ref a3, .ref a4, .ref a5, .ref a6])), (a3, .inl (kc 1, 36, .inl follow)), (a4, .inl (kc 1, 54, .inl land)), (a5, .inl (kc 1, 6, .inl aimCount))]
set_option maxHeartbeats 4000000 in
set_option maxRecDepth 100000 in
theorem c_X7_add (l : Launch) (D : va_G) (kc : Nat → ClassId) (N : Nat) (a0 a1 a2 a3 a4 a5 a6 : Nat) (count : Int32) (turnCount : Int32) (follow : Nat → Int32) (land : Nat → Int32) (aimCount : Nat → Int32) (count' : Int32) (follow' : Nat → Int32) (land' : Nat → Int32) (aimCount' : Nat → Int32) (hf : f_X7_add N count follow land aimCount = some (count', follow', land', aimCount')) : MV l yX7_add wsX7_add ({ frames := 0, cells := 0, slots := 0, locals := 0 }) D kc [.ref a0] (w_X7_add kc a0 a1 a2 a3 a4 a5 a6 count turnCount follow land aimCount) (w_X7_add kc a0 a1 a2 a3 a4 a5 a6 count' turnCount follow' land' aimCount') := by
  refine gM_V (cc := cX7_add) (maxL := 2) (by decide) rfl (Nat.le_of_ble_eq_true rfl) ?_
  intro p e s m below meth c A ls Q hx hb hml hown hts hN hK hP hD hA hl kR
  have hS : va_S A s.heap s.heap [] := va_S.rf
  have hl : lv_has ls 2 [(0, .ref a0)] := hl
  have in_X7 : ∀ w ∈ u_ws RX7 TX7 8, w ∈ wsX7_add := by decide +kernel
  have lk_30 := hts (.fieldLink RX7 30 "BalloonMail$Winds" "count" "I") (by decide +kernel)
  have lk_18 := hts (.fieldLink RX7 18 "BalloonMail$Winds" "follow" "[I") (by decide +kernel)
  have lk_21 := hts (.fieldLink RX7 21 "BalloonMail$Winds" "land" "[I") (by decide +kernel)
  have lk_24 := hts (.fieldLink RX7 24 "BalloonMail$Winds" "aimCount" "[I") (by decide +kernel)
  unfold f_X7_add at hf
  refine lv_aload_n hx hb dX7_add_0 rfl (lv_at hl 0 rfl) ?_
  refine va_get (D := D) (ci := 7) (v := .int count) (C := RX7) (T := TX7) (N := 8) hx hb hts in_X7 hown hK hP 0 rfl rfl 0 (by decide) lk_30 (fun _ h9 => h9) rfl dX7_add_1 ?_
  refine lv_bipush (v := 6) hx hb dX7_add_4 (by decide) ?_
  refine lv_icmp_ge (tgt := 111) hx hb dX7_add_6 (by decide) (fun hc => ?_) (fun hc => ?_)
  · have hf := o_t hc hf
    cases hf
    exact kR _ _ _ _ hP hD hS dX7_add_111
  · have hf := o_f hc hf
    refine lv_iconst (v := 0) hx hb dX7_add_9 (by decide) ?_
    refine lv_istore_n (lv' := [(1, .int 0), (0, .ref a0)]) hx hb dX7_add_10 rfl hl (by decide) rfl (fun ls hl => ?_)
    have L11 : ∀ (n : Nat) (y1_11 : Int32) (follow_11 : Nat → Int32) (y1_11o : Int32) (follow_11o : Nat → Int32), f_X7_add_11 N count n y1_11 follow_11 = some (y1_11o, follow_11o) → (∀ (H : Heap) (locs : List Loc) (ls : Array Slot), va_P D vwCl (w_X7_add kc a0 a1 a2 a3 a4 a5 a6 count turnCount follow_11o land aimCount) H → va_D A (w_X7_add kc a0 a1 a2 a3 a4 a5 a6 count turnCount follow_11o land aimCount) → va_S A s.heap H locs → lv_has ls 2 [(0, .ref a0), (1, .int y1_11o)] → W p l e ({ frames := 0, cells := 0, slots := 0, locals := 0 }) s m (([.ref a0] : List Value).toArray) below meth c H locs 0 0 Q (F0 m 51 ls [])) → ∀ (H : Heap) (locs : List Loc) (ls : Array Slot), va_P D vwCl (w_X7_add kc a0 a1 a2 a3 a4 a5 a6 count turnCount follow_11 land aimCount) H → va_D A (w_X7_add kc a0 a1 a2 a3 a4 a5 a6 count turnCount follow_11 land aimCount) → va_S A s.heap H locs → lv_has ls 2 [(0, .ref a0), (1, .int y1_11)] → W p l e ({ frames := 0, cells := 0, slots := 0, locals := 0 }) s m (([.ref a0] : List Value).toArray) below meth c H locs 0 0 Q (F0 m 11 ls []) := by
      intro n
      induction n with
      | zero => intro _ _ _ _ hf; rw [f_X7_add_11.eq_1] at hf; cases hf
      | succ n ih =>
        intro y1_11 follow_11 y1_11o follow_11o hf hk H locs ls hP hD hS hl
        rw [f_X7_add_11.eq_2] at hf
        refine lv_iload_n hx hb dX7_add_11 rfl (lv_at hl 1 rfl) ?_
        refine lv_bipush (v := 6) hx hb dX7_add_12 (by decide) ?_
        refine lv_icmp_ge (tgt := 51) hx hb dX7_add_14 (by decide) (fun hc => ?_) (fun hc => ?_)
        · have hf := o_t hc hf
          cases hf
          exact hk _ _ _ hP hD hS (lv_sub hl [0, 1] rfl)
        · have hf := o_f hc hf
          refine lv_aload_n hx hb dX7_add_17 rfl (lv_at hl 0 rfl) ?_
          refine va_get (D := D) (ci := 7) (v := .ref a3) (C := RX7) (T := TX7) (N := 8) hx hb hts in_X7 hown hK hP 0 rfl rfl 4 (by decide) lk_18 (fun _ h9 => h9) rfl dX7_add_18 ?_
          refine lv_aload_n hx hb dX7_add_21 rfl (lv_at hl 0 rfl) ?_
          refine va_get (D := D) (ci := 7) (v := .int count) (C := RX7) (T := TX7) (N := 8) hx hb hts in_X7 hown hK hP 0 rfl rfl 0 (by decide) lk_30 (fun _ h9 => h9) rfl dX7_add_22 ?_
          refine lv_bipush (v := 6) hx hb dX7_add_25 (by decide) ?_
          refine lv_imul hx hb dX7_add_27 ?_
          refine lv_iload_n hx hb dX7_add_28 rfl (lv_at hl 1 rfl) ?_
          refine lv_iadd hx hb dX7_add_29 ?_
          refine lv_iload_n hx hb dX7_add_30 rfl (lv_at hl 1 rfl) ?_
          refine lv_aload_n hx hb dX7_add_31 rfl (lv_at hl 0 rfl) ?_
          refine va_get (D := D) (ci := 7) (v := .int count) (C := RX7) (T := TX7) (N := 8) hx hb hts in_X7 hown hK hP 0 rfl rfl 0 (by decide) lk_30 (fun _ h9 => h9) rfl dX7_add_32 ?_
          refine lv_icmp_ne (tgt := 43) hx hb dX7_add_35 (by decide) (fun hc => ?_) (fun hc => ?_)
          · have hf := o_f hc hf
            refine lv_iconst (v := 0) hx hb dX7_add_43 (by decide) ?_
            obtain ⟨hi, hf⟩ := gIx_some hf
            refine va_iast hx hb hK hP hD hS 1 1 rfl rfl hi dX7_add_44 (fun H locs hP hD hS => ?_)
            have hP : va_P D vwCl (w_X7_add kc a0 a1 a2 a3 a4 a5 a6 count turnCount (upd follow_11 (((count * 6) + y1_11) : Int32).toNatClampNeg 0) land aimCount) H := hP
            have hD : va_D A (w_X7_add kc a0 a1 a2 a3 a4 a5 a6 count turnCount (upd follow_11 (((count * 6) + y1_11) : Int32).toNatClampNeg 0) land aimCount) := hD
            refine lv_iinc (v := (y1_11 + 1)) (lv' := [(1, .int (y1_11 + 1)), (0, .ref a0)]) hx hb dX7_add_45 hl (k := 1) rfl (by rfl) (by decide) rfl (fun ls hl => ?_)
            refine lv_goto (tgt := 11) hx hb dX7_add_48 (by decide) ?_
            exact ih _ _ _ _ hf hk _ _ _ hP hD hS (lv_sub hl [1, 0] rfl)
          · have hf := o_t hc hf
            refine lv_bipush (v := 10) hx hb dX7_add_38 (by decide) ?_
            refine lv_goto (tgt := 44) hx hb dX7_add_40 (by decide) ?_
            obtain ⟨hi, hf⟩ := gIx_some hf
            refine va_iast hx hb hK hP hD hS 1 1 rfl rfl hi dX7_add_44 (fun H locs hP hD hS => ?_)
            have hP : va_P D vwCl (w_X7_add kc a0 a1 a2 a3 a4 a5 a6 count turnCount (upd follow_11 (((count * 6) + y1_11) : Int32).toNatClampNeg 10) land aimCount) H := hP
            have hD : va_D A (w_X7_add kc a0 a1 a2 a3 a4 a5 a6 count turnCount (upd follow_11 (((count * 6) + y1_11) : Int32).toNatClampNeg 10) land aimCount) := hD
            refine lv_iinc (v := (y1_11 + 1)) (lv' := [(1, .int (y1_11 + 1)), (0, .ref a0)]) hx hb dX7_add_45 hl (k := 1) rfl (by rfl) (by decide) rfl (fun ls hl => ?_)
            refine lv_goto (tgt := 11) hx hb dX7_add_48 (by decide) ?_
            exact ih _ _ _ _ hf hk _ _ _ hP hD hS (lv_sub hl [1, 0] rfl)
    obtain ⟨y1_11o, follow_11o, hc, hf⟩ := ob2_some hf
    refine L11 N _ _ _ _ hc (fun H locs ls hP hD hS hl => ?_) _ _ _ hP hD hS (lv_sub hl [1, 0] rfl)
    refine lv_iconst (v := 0) hx hb dX7_add_51 (by decide) ?_
    refine lv_istore_n (lv' := [(1, .int 0), (0, .ref a0)]) hx hb dX7_add_52 rfl hl (by decide) rfl (fun ls hl => ?_)
    have L53 : ∀ (n : Nat) (y1_53 : Int32) (land_53 : Nat → Int32) (y1_53o : Int32) (land_53o : Nat → Int32), f_X7_add_53 N count n y1_53 land_53 = some (y1_53o, land_53o) → (∀ (H : Heap) (locs : List Loc) (ls : Array Slot), va_P D vwCl (w_X7_add kc a0 a1 a2 a3 a4 a5 a6 count turnCount follow_11o land_53o aimCount) H → va_D A (w_X7_add kc a0 a1 a2 a3 a4 a5 a6 count turnCount follow_11o land_53o aimCount) → va_S A s.heap H locs → lv_has ls 2 [(0, .ref a0), (1, .int y1_53o)] → W p l e ({ frames := 0, cells := 0, slots := 0, locals := 0 }) s m (([.ref a0] : List Value).toArray) below meth c H locs 0 0 Q (F0 m 91 ls [])) → ∀ (H : Heap) (locs : List Loc) (ls : Array Slot), va_P D vwCl (w_X7_add kc a0 a1 a2 a3 a4 a5 a6 count turnCount follow_11o land_53 aimCount) H → va_D A (w_X7_add kc a0 a1 a2 a3 a4 a5 a6 count turnCount follow_11o land_53 aimCount) → va_S A s.heap H locs → lv_has ls 2 [(0, .ref a0), (1, .int y1_53)] → W p l e ({ frames := 0, cells := 0, slots := 0, locals := 0 }) s m (([.ref a0] : List Value).toArray) below meth c H locs 0 0 Q (F0 m 53 ls []) := by
      intro n
      induction n with
      | zero => intro _ _ _ _ hf; rw [f_X7_add_53.eq_1] at hf; cases hf
      | succ n ih =>
        intro y1_53 land_53 y1_53o land_53o hf hk H locs ls hP hD hS hl
        rw [f_X7_add_53.eq_2] at hf
        refine lv_iload_n hx hb dX7_add_53 rfl (lv_at hl 1 rfl) ?_
        refine lv_bipush (v := 9) hx hb dX7_add_54 (by decide) ?_
        refine lv_icmp_ge (tgt := 91) hx hb dX7_add_56 (by decide) (fun hc => ?_) (fun hc => ?_)
        · have hf := o_t hc hf
          cases hf
          exact hk _ _ _ hP hD hS (lv_sub hl [0, 1] rfl)
        · have hf := o_f hc hf
          refine lv_aload_n hx hb dX7_add_59 rfl (lv_at hl 0 rfl) ?_
          refine va_get (D := D) (ci := 7) (v := .ref a4) (C := RX7) (T := TX7) (N := 8) hx hb hts in_X7 hown hK hP 0 rfl rfl 5 (by decide) lk_21 (fun _ h9 => h9) rfl dX7_add_60 ?_
          refine lv_aload_n hx hb dX7_add_63 rfl (lv_at hl 0 rfl) ?_
          refine va_get (D := D) (ci := 7) (v := .int count) (C := RX7) (T := TX7) (N := 8) hx hb hts in_X7 hown hK hP 0 rfl rfl 0 (by decide) lk_30 (fun _ h9 => h9) rfl dX7_add_64 ?_
          refine lv_bipush (v := 9) hx hb dX7_add_67 (by decide) ?_
          refine lv_imul hx hb dX7_add_69 ?_
          refine lv_iload_n hx hb dX7_add_70 rfl (lv_at hl 1 rfl) ?_
          refine lv_iadd hx hb dX7_add_71 ?_
          refine lv_iload_n hx hb dX7_add_72 rfl (lv_at hl 1 rfl) ?_
          refine lv_bipush (v := 8) hx hb dX7_add_73 (by decide) ?_
          refine lv_icmp_ne (tgt := 83) hx hb dX7_add_75 (by decide) (fun hc => ?_) (fun hc => ?_)
          · have hf := o_f hc hf
            refine lv_iconst (v := 0) hx hb dX7_add_83 (by decide) ?_
            obtain ⟨hi, hf⟩ := gIx_some hf
            refine va_iast hx hb hK hP hD hS 2 1 rfl rfl hi dX7_add_84 (fun H locs hP hD hS => ?_)
            have hP : va_P D vwCl (w_X7_add kc a0 a1 a2 a3 a4 a5 a6 count turnCount follow_11o (upd land_53 (((count * 9) + y1_53) : Int32).toNatClampNeg 0) aimCount) H := hP
            have hD : va_D A (w_X7_add kc a0 a1 a2 a3 a4 a5 a6 count turnCount follow_11o (upd land_53 (((count * 9) + y1_53) : Int32).toNatClampNeg 0) aimCount) := hD
            refine lv_iinc (v := (y1_53 + 1)) (lv' := [(1, .int (y1_53 + 1)), (0, .ref a0)]) hx hb dX7_add_85 hl (k := 1) rfl (by rfl) (by decide) rfl (fun ls hl => ?_)
            refine lv_goto (tgt := 53) hx hb dX7_add_88 (by decide) ?_
            exact ih _ _ _ _ hf hk _ _ _ hP hD hS (lv_sub hl [1, 0] rfl)
          · have hf := o_t hc hf
            refine lv_bipush (v := 10) hx hb dX7_add_78 (by decide) ?_
            refine lv_goto (tgt := 84) hx hb dX7_add_80 (by decide) ?_
            obtain ⟨hi, hf⟩ := gIx_some hf
            refine va_iast hx hb hK hP hD hS 2 1 rfl rfl hi dX7_add_84 (fun H locs hP hD hS => ?_)
            have hP : va_P D vwCl (w_X7_add kc a0 a1 a2 a3 a4 a5 a6 count turnCount follow_11o (upd land_53 (((count * 9) + y1_53) : Int32).toNatClampNeg 10) aimCount) H := hP
            have hD : va_D A (w_X7_add kc a0 a1 a2 a3 a4 a5 a6 count turnCount follow_11o (upd land_53 (((count * 9) + y1_53) : Int32).toNatClampNeg 10) aimCount) := hD
            refine lv_iinc (v := (y1_53 + 1)) (lv' := [(1, .int (y1_53 + 1)), (0, .ref a0)]) hx hb dX7_add_85 hl (k := 1) rfl (by rfl) (by decide) rfl (fun ls hl => ?_)
            refine lv_goto (tgt := 53) hx hb dX7_add_88 (by decide) ?_
            exact ih _ _ _ _ hf hk _ _ _ hP hD hS (lv_sub hl [1, 0] rfl)
    obtain ⟨y1_53o, land_53o, hc, hf⟩ := ob2_some hf
    refine L53 N _ _ _ _ hc (fun H locs ls hP hD hS hl => ?_) _ _ _ hP hD hS (lv_sub hl [1, 0] rfl)
    refine lv_aload_n hx hb dX7_add_91 rfl (lv_at hl 0 rfl) ?_
    refine va_get (D := D) (ci := 7) (v := .ref a5) (C := RX7) (T := TX7) (N := 8) hx hb hts in_X7 hown hK hP 0 rfl rfl 6 (by decide) lk_24 (fun _ h9 => h9) rfl dX7_add_92 ?_
    refine lv_aload_n hx hb dX7_add_95 rfl (lv_at hl 0 rfl) ?_
    refine va_get (D := D) (ci := 7) (v := .int count) (C := RX7) (T := TX7) (N := 8) hx hb hts in_X7 hown hK hP 0 rfl rfl 0 (by decide) lk_30 (fun _ h9 => h9) rfl dX7_add_96 ?_
    refine lv_iconst (v := 0) hx hb dX7_add_99 (by decide) ?_
    obtain ⟨hi, hf⟩ := gIx_some hf
    refine va_iast hx hb hK hP hD hS 3 1 rfl rfl hi dX7_add_100 (fun H locs hP hD hS => ?_)
    have hP : va_P D vwCl (w_X7_add kc a0 a1 a2 a3 a4 a5 a6 count turnCount follow_11o land_53o (upd aimCount (count : Int32).toNatClampNeg 0)) H := hP
    have hD : va_D A (w_X7_add kc a0 a1 a2 a3 a4 a5 a6 count turnCount follow_11o land_53o (upd aimCount (count : Int32).toNatClampNeg 0)) := hD
    refine lv_aload_n hx hb dX7_add_101 rfl (lv_at hl 0 rfl) ?_
    refine lv_dup hx hb dX7_add_102 rfl ?_
    refine va_get (D := D) (ci := 7) (v := .int count) (C := RX7) (T := TX7) (N := 8) hx hb hts in_X7 hown hK hP 0 rfl rfl 0 (by decide) lk_30 (fun _ h9 => h9) rfl dX7_add_103 ?_
    refine lv_iconst (v := 1) hx hb dX7_add_106 (by decide) ?_
    refine lv_iadd hx hb dX7_add_107 ?_
    refine va_put (D := D) (ci := 7) (v := .int (count + 1)) (ty := .int) (C := RX7) (T := TX7) (N := 8) hx hb hts in_X7 tyX7 tyX7_ok nmX7 hown hK hP hD hS 0 rfl rfl 0 (by decide) lk_30 (fun _ h9 => h9) rfl (by decide +kernel) rfl rfl (Nat.le_of_ble_eq_true rfl) dX7_add_108 (fun H locs hP hD hS => ?_)
    have hP : va_P D vwCl (w_X7_add kc a0 a1 a2 a3 a4 a5 a6 (count + 1) turnCount follow_11o land_53o (upd aimCount (count : Int32).toNatClampNeg 0)) H := hP
    have hD : va_D A (w_X7_add kc a0 a1 a2 a3 a4 a5 a6 (count + 1) turnCount follow_11o land_53o (upd aimCount (count : Int32).toNatClampNeg 0)) := hD
    cases hf
    exact kR _ _ _ _ hP hD hS dX7_add_111
abbrev w_X7_chooseWind (kc : Nat → ClassId) (a0 a1 a2 a3 a4 a5 a6 : Nat) (count : Int32) (turnCount : Int32) (turnFrom : Nat → Int32) (turnTo : Nat → Int32) (follow : Nat → Int32) : va_W := [(a0, .inr (7, [.int count, .int turnCount, .ref a1, .ref a2, .ref a3, .ref a4, .ref a5, .ref a6])), (a1, .inl (kc 1, 30, .inl turnFrom)), (a2, .inl (kc 1, 30, .inl turnTo)), (a3, .inl (kc 1, 36, .inl follow))]
set_option maxHeartbeats 4000000 in
set_option maxRecDepth 100000 in
theorem c_X7_chooseWind (l : Launch) (D : va_G) (kc : Nat → ClassId) (N : Nat) (a0 a1 a2 a3 a4 a5 a6 : Nat) (count : Int32) (turnCount : Int32) (turnFrom : Nat → Int32) (turnTo : Nat → Int32) (follow : Nat → Int32) (x1 : Int32) (x2 : Int32) (r_ : Int32) (hf : f_X7_chooseWind N count turnCount turnFrom turnTo follow x1 x2 = some r_) : MI l yX7_chooseWind wsX7_chooseWind ({ frames := 1, cells := 0, slots := 0, locals := 22 }) D kc [.ref a0, .int x1, .int x2] (w_X7_chooseWind kc a0 a1 a2 a3 a4 a5 a6 count turnCount turnFrom turnTo follow) (w_X7_chooseWind kc a0 a1 a2 a3 a4 a5 a6 count turnCount turnFrom turnTo follow) r_ := by
  refine gM_I (cc := cX7_chooseWind) (maxL := 6) (by decide) rfl (Nat.le_of_ble_eq_true rfl) ?_
  intro p e s m below meth c A ls Q hx hb hml hown hts hN hK hP hD hA hl kR
  have hS : va_S A s.heap s.heap [] := va_S.rf
  have hl : lv_has ls 6 [(0, .ref a0), (1, .int x1), (2, .int x2)] := hl
  have in_X7 : ∀ w ∈ u_ws RX7 TX7 8, w ∈ wsX7_chooseWind := by decide +kernel
  have lk_34 := hts (.fieldLink RX7 34 "BalloonMail$Winds" "turnCount" "I") (by decide +kernel)
  have lk_9 := hts (.fieldLink RX7 9 "BalloonMail$Winds" "turnFrom" "[I") (by decide +kernel)
  have lk_15 := hts (.fieldLink RX7 15 "BalloonMail$Winds" "turnTo" "[I") (by decide +kernel)
  unfold f_X7_chooseWind at hf
  refine lv_iload_n hx hb dX7_chooseWind_0 rfl (lv_at hl 2 rfl) ?_
  refine lv_istore_n (lv' := [(3, .int x2), (0, .ref a0), (1, .int x1), (2, .int x2)]) hx hb dX7_chooseWind_1 rfl hl (by decide) rfl (fun ls hl => ?_)
  refine lv_iconst (v := 0) hx hb dX7_chooseWind_2 (by decide) ?_
  refine lv_istore (lv' := [(4, .int 0), (3, .int x2), (0, .ref a0), (1, .int x1), (2, .int x2)]) hx hb dX7_chooseWind_3 hl (by decide) rfl (fun ls hl => ?_)
  have L5 : ∀ (n : Nat) (y4_5 : Int32) (y3_5 : Int32), f_X7_chooseWind_5 N count turnCount turnFrom turnTo follow x1 n y4_5 y3_5 = some r_ → ∀ (H : Heap) (locs : List Loc) (ls : Array Slot), va_P D vwCl (w_X7_chooseWind kc a0 a1 a2 a3 a4 a5 a6 count turnCount turnFrom turnTo follow) H → va_D A (w_X7_chooseWind kc a0 a1 a2 a3 a4 a5 a6 count turnCount turnFrom turnTo follow) → va_S A s.heap H locs → lv_has ls 6 [(0, .ref a0), (1, .int x1), (2, .int x2), (3, .int y3_5), (4, .int y4_5)] → W p l e ({ frames := 1, cells := 0, slots := 0, locals := 22 }) s m (([.ref a0, .int x1, .int x2] : List Value).toArray) below meth c H locs 0 0 Q (F0 m 5 ls []) := by
    clear hf
    intro n
    induction n with
    | zero => intro _ _ hf; rw [f_X7_chooseWind_5.eq_1] at hf; cases hf
    | succ n ih =>
      intro y4_5 y3_5 hf H locs ls hP hD hS hl
      rw [f_X7_chooseWind_5.eq_2] at hf
      refine lv_iload hx hb dX7_chooseWind_5 (lv_at hl 4 rfl) ?_
      refine lv_aload_n hx hb dX7_chooseWind_7 rfl (lv_at hl 0 rfl) ?_
      refine va_get (D := D) (ci := 7) (v := .int turnCount) (C := RX7) (T := TX7) (N := 8) hx hb hts in_X7 hown hK hP 0 rfl rfl 1 (by decide) lk_34 (fun _ h9 => h9) rfl dX7_chooseWind_8 ?_
      refine lv_icmp_ge (tgt := 71) hx hb dX7_chooseWind_11 (by decide) (fun hc => ?_) (fun hc => ?_)
      · have hf := o_t hc hf
        refine lv_iload_n hx hb dX7_chooseWind_71 rfl (lv_at hl 1 rfl) ?_
        cases hf
        exact kR _ _ _ _ hP hD hS dX7_chooseWind_72
      · have hf := o_f hc hf
        refine lv_iload hx hb dX7_chooseWind_14 (lv_at hl 4 rfl) ?_
        refine lv_bipush (v := 30) hx hb dX7_chooseWind_16 (by decide) ?_
        refine lv_icmp_ge (tgt := 71) hx hb dX7_chooseWind_18 (by decide) (fun hc => ?_) (fun hc => ?_)
        · have hf := o_t hc hf
          refine lv_iload_n hx hb dX7_chooseWind_71 rfl (lv_at hl 1 rfl) ?_
          cases hf
          exact kR _ _ _ _ hP hD hS dX7_chooseWind_72
        · have hf := o_f hc hf
          refine lv_aload_n hx hb dX7_chooseWind_21 rfl (lv_at hl 0 rfl) ?_
          refine va_get (D := D) (ci := 7) (v := .ref a1) (C := RX7) (T := TX7) (N := 8) hx hb hts in_X7 hown hK hP 0 rfl rfl 2 (by decide) lk_9 (fun _ h9 => h9) rfl dX7_chooseWind_22 ?_
          refine lv_iload hx hb dX7_chooseWind_25 (lv_at hl 4 rfl) ?_
          obtain ⟨hi, hf⟩ := gIx_some hf
          refine va_iald hx hb hK hP 1 1 rfl rfl hi dX7_chooseWind_27 ?_
          refine lv_iload_n hx hb dX7_chooseWind_28 rfl (lv_at hl 1 rfl) ?_
          refine lv_icmp_ne (tgt := 65) hx hb dX7_chooseWind_29 (by decide) (fun hc => ?_) (fun hc => ?_)
          · have hf := o_f hc hf
            refine lv_iinc (v := (y4_5 + 1)) (lv' := [(4, .int (y4_5 + 1)), (0, .ref a0), (1, .int x1), (2, .int x2), (3, .int y3_5)]) hx hb dX7_chooseWind_65 hl (k := 4) rfl (by rfl) (by decide) rfl (fun ls hl => ?_)
            refine lv_goto (tgt := 5) hx hb dX7_chooseWind_68 (by decide) ?_
            exact ih _ _ hf _ _ _ hP hD hS (lv_sub hl [1, 2, 3, 4, 0] rfl)
          · have hf := o_t hc hf
            refine lv_aload_n hx hb dX7_chooseWind_32 rfl (lv_at hl 0 rfl) ?_
            refine lv_iload_n hx hb dX7_chooseWind_33 rfl (lv_at hl 1 rfl) ?_
            refine lv_aload_n hx hb dX7_chooseWind_34 rfl (lv_at hl 0 rfl) ?_
            refine va_get (D := D) (ci := 7) (v := .ref a2) (C := RX7) (T := TX7) (N := 8) hx hb hts in_X7 hown hK hP 0 rfl rfl 3 (by decide) lk_15 (fun _ h9 => h9) rfl dX7_chooseWind_35 ?_
            refine lv_iload hx hb dX7_chooseWind_38 (lv_at hl 4 rfl) ?_
            obtain ⟨hi, hf⟩ := gIx_some hf
            refine va_iald hx hb hK hP 2 1 rfl rfl hi dX7_chooseWind_40 ?_
            obtain ⟨r_1, hc, hf⟩ := ob1_some hf
            refine g_VI (As := [.int x1, .int (turnTo (y4_5 : Int32).toNatClampNeg)]) (rest := []) (ws' := (w_X7_chooseWind kc a0 a1 a2 a3 a4 a5 a6 count turnCount turnFrom turnTo follow)) ⟨hx, hb, hml, hown, hts⟩ hN hK hP hD hS hA (c_X7_followTenths l D kc N a0 a1 a2 a3 a4 a5 a6 count turnCount follow x1 (turnTo (y4_5 : Int32).toNatClampNeg) r_1 hc) (cwV 2 hts gX7_chooseWind_X7_followTenths rfl rfl rfl (by decide +kernel) ⟨Nat.le_of_ble_eq_true rfl, Nat.le_of_ble_eq_true rfl⟩) [0, 3] [1, 2] [2, 0, 1, 3] (by exact ⟨rfl, rfl, by decide, rfl⟩) 0 7 rfl rfl rfl rfl hl.1 rfl (Nat.le_of_ble_eq_true rfl) dX7_chooseWind_41 ⟨Nat.le_refl _, Nat.le_refl _⟩ (fun H locs hP hD hS => ?_)
            refine lv_istore (lv' := [(5, .int r_1), (0, .ref a0), (1, .int x1), (2, .int x2), (3, .int y3_5), (4, .int y4_5)]) hx hb dX7_chooseWind_44 hl (by decide) rfl (fun ls hl => ?_)
            refine lv_iload_n hx hb dX7_chooseWind_46 rfl (lv_at hl 4 rfl) ?_
            refine lv_iload hx hb dX7_chooseWind_47 (lv_at hl 0 rfl) ?_
            refine lv_icmp_ge (tgt := 60) hx hb dX7_chooseWind_49 (by decide) (fun hc => ?_) (fun hc => ?_)
            · have hf := o_t hc hf
              refine lv_iload_n hx hb dX7_chooseWind_60 rfl (lv_at hl 4 rfl) ?_
              refine lv_iload hx hb dX7_chooseWind_61 (lv_at hl 0 rfl) ?_
              refine lv_isub hx hb dX7_chooseWind_63 ?_
              refine lv_istore_n (lv' := [(3, .int (y3_5 - r_1)), (5, .int r_1), (0, .ref a0), (1, .int x1), (2, .int x2), (4, .int y4_5)]) hx hb dX7_chooseWind_64 rfl hl (by decide) rfl (fun ls hl => ?_)
              refine lv_iinc (v := (y4_5 + 1)) (lv' := [(4, .int (y4_5 + 1)), (3, .int (y3_5 - r_1)), (5, .int r_1), (0, .ref a0), (1, .int x1), (2, .int x2)]) hx hb dX7_chooseWind_65 hl (k := 5) rfl (by rfl) (by decide) rfl (fun ls hl => ?_)
              refine lv_goto (tgt := 5) hx hb dX7_chooseWind_68 (by decide) ?_
              exact ih _ _ hf _ _ _ hP hD hS (lv_sub hl [3, 4, 5, 1, 0] rfl)
            · have hf := o_f hc hf
              refine lv_aload_n hx hb dX7_chooseWind_52 rfl (lv_at hl 1 rfl) ?_
              refine va_get (D := D) (ci := 7) (v := .ref a2) (C := RX7) (T := TX7) (N := 8) hx hb hts in_X7 hown hK hP 0 rfl rfl 3 (by decide) lk_15 (fun _ h9 => h9) rfl dX7_chooseWind_53 ?_
              refine lv_iload hx hb dX7_chooseWind_56 (lv_at hl 5 rfl) ?_
              obtain ⟨hi, hf⟩ := gIx_some hf
              refine va_iald hx hb hK hP 2 1 rfl rfl hi dX7_chooseWind_58 ?_
              cases hf
              exact kR _ _ _ _ hP hD hS dX7_chooseWind_59
  exact L5 N _ _ hf _ _ _ hP hD hS (lv_sub hl [2, 3, 4, 1, 0] rfl)
abbrev w_X7_chooseRegion (kc : Nat → ClassId) (a0 a1 a2 a3 a4 a5 a6 : Nat) (count : Int32) (turnCount : Int32) (aimCount : Nat → Int32) (aim : Nat → Int32) (land : Nat → Int32) : va_W := [(a0, .inr (7, [.int count, .int turnCount, .ref a1, .ref a2, .ref a3, .ref a4, .ref a5, .ref a6])), (a5, .inl (kc 1, 6, .inl aimCount)), (a6, .inl (kc 1, 48, .inl aim)), (a4, .inl (kc 1, 54, .inl land))]
set_option maxHeartbeats 4000000 in
set_option maxRecDepth 100000 in
theorem c_X7_chooseRegion (l : Launch) (D : va_G) (kc : Nat → ClassId) (N : Nat) (a0 a1 a2 a3 a4 a5 a6 : Nat) (count : Int32) (turnCount : Int32) (aimCount : Nat → Int32) (aim : Nat → Int32) (land : Nat → Int32) (x1 : Int32) (x2 : Int32) (r_ : Int32) (hf : f_X7_chooseRegion N count aimCount aim land x1 x2 = some r_) : MI l yX7_chooseRegion wsX7_chooseRegion ({ frames := 1, cells := 0, slots := 0, locals := 22 }) D kc [.ref a0, .int x1, .int x2] (w_X7_chooseRegion kc a0 a1 a2 a3 a4 a5 a6 count turnCount aimCount aim land) (w_X7_chooseRegion kc a0 a1 a2 a3 a4 a5 a6 count turnCount aimCount aim land) r_ := by
  refine gM_I (cc := cX7_chooseRegion) (maxL := 7) (by decide) rfl (Nat.le_of_ble_eq_true rfl) ?_
  intro p e s m below meth c A ls Q hx hb hml hown hts hN hK hP hD hA hl kR
  have hS : va_S A s.heap s.heap [] := va_S.rf
  have hl : lv_has ls 7 [(0, .ref a0), (1, .int x1), (2, .int x2)] := hl
  have in_X7 : ∀ w ∈ u_ws RX7 TX7 8, w ∈ wsX7_chooseRegion := by decide +kernel
  have lk_24 := hts (.fieldLink RX7 24 "BalloonMail$Winds" "aimCount" "[I") (by decide +kernel)
  have lk_27 := hts (.fieldLink RX7 27 "BalloonMail$Winds" "aim" "[I") (by decide +kernel)
  unfold f_X7_chooseRegion at hf
  refine lv_aload_n hx hb dX7_chooseRegion_0 rfl (lv_at hl 0 rfl) ?_
  refine lv_iload_n hx hb dX7_chooseRegion_1 rfl (lv_at hl 1 rfl) ?_
  obtain ⟨r_1, hc, hf⟩ := ob1_some hf
  refine g_VZ (As := [.int x1]) (rest := []) (ws' := (w_X7_chooseRegion kc a0 a1 a2 a3 a4 a5 a6 count turnCount aimCount aim land)) ⟨hx, hb, hml, hown, hts⟩ hN hK hP hD hS hA (c_X7_has l D kc N a0 a1 a2 a3 a4 a5 a6 count turnCount x1 r_1 hc) (cwV 1 hts gX7_chooseRegion_X7_has rfl rfl rfl (by decide +kernel) ⟨Nat.le_of_ble_eq_true rfl, Nat.le_of_ble_eq_true rfl⟩) [0] [1, 2, 3] [3, 0, 1, 2] (by exact ⟨rfl, rfl, by decide, rfl⟩) 0 7 rfl rfl rfl rfl hl.1 rfl (Nat.le_of_ble_eq_true rfl) dX7_chooseRegion_2 ⟨Nat.le_refl _, Nat.le_refl _⟩ (fun H locs hz hP hD hS => ?_)
  have hz_2 := hz
  refine lv_if_ne (tgt := 11) hx hb dX7_chooseRegion_5 (by decide) (fun hc => ?_) (fun hc => ?_)
  · have hf := o_f hc hf
    refine lv_iload_n hx hb dX7_chooseRegion_11 rfl (lv_at hl 2 rfl) ?_
    refine lv_istore_n (lv' := [(3, .int x2), (0, .ref a0), (1, .int x1), (2, .int x2)]) hx hb dX7_chooseRegion_12 rfl hl (by decide) rfl (fun ls hl => ?_)
    refine lv_iconst (v := 0) hx hb dX7_chooseRegion_13 (by decide) ?_
    refine lv_istore (lv' := [(4, .int 0), (3, .int x2), (0, .ref a0), (1, .int x1), (2, .int x2)]) hx hb dX7_chooseRegion_14 hl (by decide) rfl (fun ls hl => ?_)
    have L16 : ∀ (n : Nat) (y4_16 : Int32) (y3_16 : Int32), f_X7_chooseRegion_16 N count aimCount aim land x1 n y4_16 y3_16 = some r_ → ∀ (H : Heap) (locs : List Loc) (ls : Array Slot), va_P D vwCl (w_X7_chooseRegion kc a0 a1 a2 a3 a4 a5 a6 count turnCount aimCount aim land) H → va_D A (w_X7_chooseRegion kc a0 a1 a2 a3 a4 a5 a6 count turnCount aimCount aim land) → va_S A s.heap H locs → lv_has ls 7 [(0, .ref a0), (1, .int x1), (2, .int x2), (3, .int y3_16), (4, .int y4_16)] → W p l e ({ frames := 1, cells := 0, slots := 0, locals := 22 }) s m (([.ref a0, .int x1, .int x2] : List Value).toArray) below meth c H locs 0 0 Q (F0 m 16 ls []) := by
      clear hf
      intro n
      induction n with
      | zero => intro _ _ hf; rw [f_X7_chooseRegion_16.eq_1] at hf; cases hf
      | succ n ih =>
        intro y4_16 y3_16 hf H locs ls hP hD hS hl
        rw [f_X7_chooseRegion_16.eq_2] at hf
        refine lv_iload hx hb dX7_chooseRegion_16 (lv_at hl 4 rfl) ?_
        refine lv_aload_n hx hb dX7_chooseRegion_18 rfl (lv_at hl 0 rfl) ?_
        refine va_get (D := D) (ci := 7) (v := .ref a5) (C := RX7) (T := TX7) (N := 8) hx hb hts in_X7 hown hK hP 0 rfl rfl 6 (by decide) lk_24 (fun _ h9 => h9) rfl dX7_chooseRegion_19 ?_
        refine lv_iload_n hx hb dX7_chooseRegion_22 rfl (lv_at hl 1 rfl) ?_
        obtain ⟨hi, hf⟩ := gIx_some hf
        refine va_iald hx hb hK hP 1 1 rfl rfl hi dX7_chooseRegion_23 ?_
        refine lv_icmp_ge (tgt := 77) hx hb dX7_chooseRegion_24 (by decide) (fun hc => ?_) (fun hc => ?_)
        · have hf := o_t hc hf
          refine lv_bipush (v := (-2)) hx hb dX7_chooseRegion_77 (by decide) ?_
          cases hf
          exact kR _ _ _ _ hP hD hS dX7_chooseRegion_79
        · have hf := o_f hc hf
          refine lv_iload hx hb dX7_chooseRegion_27 (lv_at hl 4 rfl) ?_
          refine lv_bipush (v := 8) hx hb dX7_chooseRegion_29 (by decide) ?_
          refine lv_icmp_ge (tgt := 77) hx hb dX7_chooseRegion_31 (by decide) (fun hc => ?_) (fun hc => ?_)
          · have hf := o_t hc hf
            refine lv_bipush (v := (-2)) hx hb dX7_chooseRegion_77 (by decide) ?_
            cases hf
            exact kR _ _ _ _ hP hD hS dX7_chooseRegion_79
          · have hf := o_f hc hf
            refine lv_aload_n hx hb dX7_chooseRegion_34 rfl (lv_at hl 0 rfl) ?_
            refine va_get (D := D) (ci := 7) (v := .ref a6) (C := RX7) (T := TX7) (N := 8) hx hb hts in_X7 hown hK hP 0 rfl rfl 7 (by decide) lk_27 (fun _ h9 => h9) rfl dX7_chooseRegion_35 ?_
            refine lv_iload_n hx hb dX7_chooseRegion_38 rfl (lv_at hl 1 rfl) ?_
            refine lv_bipush (v := 8) hx hb dX7_chooseRegion_39 (by decide) ?_
            refine lv_imul hx hb dX7_chooseRegion_41 ?_
            refine lv_iload hx hb dX7_chooseRegion_42 (lv_at hl 4 rfl) ?_
            refine lv_iadd hx hb dX7_chooseRegion_44 ?_
            obtain ⟨hi, hf⟩ := gIx_some hf
            refine va_iald hx hb hK hP 2 1 rfl rfl hi dX7_chooseRegion_45 ?_
            refine lv_istore (lv' := [(5, .int (aim (((x1 * 8) + y4_16) : Int32).toNatClampNeg)), (0, .ref a0), (1, .int x1), (2, .int x2), (3, .int y3_16), (4, .int y4_16)]) hx hb dX7_chooseRegion_46 hl (by decide) rfl (fun ls hl => ?_)
            refine lv_aload_n hx hb dX7_chooseRegion_48 rfl (lv_at hl 1 rfl) ?_
            refine lv_iload_n hx hb dX7_chooseRegion_49 rfl (lv_at hl 2 rfl) ?_
            refine lv_iload hx hb dX7_chooseRegion_50 (lv_at hl 0 rfl) ?_
            obtain ⟨r_3, hc, hf⟩ := ob1_some hf
            refine g_VI (As := [.int x1, .int (aim (((x1 * 8) + y4_16) : Int32).toNatClampNeg)]) (rest := []) (ws' := (w_X7_chooseRegion kc a0 a1 a2 a3 a4 a5 a6 count turnCount aimCount aim land)) ⟨hx, hb, hml, hown, hts⟩ hN hK hP hD hS hA (c_X7_landTenths l D kc N a0 a1 a2 a3 a4 a5 a6 count turnCount land x1 (aim (((x1 * 8) + y4_16) : Int32).toNatClampNeg) r_3 hc) (cwV 2 hts gX7_chooseRegion_X7_landTenths rfl rfl rfl (by decide +kernel) ⟨Nat.le_of_ble_eq_true rfl, Nat.le_of_ble_eq_true rfl⟩) [0, 3] [1, 2] [2, 0, 1, 3] (by exact ⟨rfl, rfl, by decide, rfl⟩) 0 7 rfl rfl rfl rfl hl.1 rfl (Nat.le_of_ble_eq_true rfl) dX7_chooseRegion_52 ⟨Nat.le_refl _, Nat.le_refl _⟩ (fun H locs hP hD hS => ?_)
            refine lv_istore (lv' := [(6, .int r_3), (5, .int (aim (((x1 * 8) + y4_16) : Int32).toNatClampNeg)), (0, .ref a0), (1, .int x1), (2, .int x2), (3, .int y3_16), (4, .int y4_16)]) hx hb dX7_chooseRegion_55 hl (by decide) rfl (fun ls hl => ?_)
            refine lv_iload_n hx hb dX7_chooseRegion_57 rfl (lv_at hl 5 rfl) ?_
            refine lv_iload hx hb dX7_chooseRegion_58 (lv_at hl 0 rfl) ?_
            refine lv_icmp_ge (tgt := 66) hx hb dX7_chooseRegion_60 (by decide) (fun hc => ?_) (fun hc => ?_)
            · have hf := o_t hc hf
              refine lv_iload_n hx hb dX7_chooseRegion_66 rfl (lv_at hl 5 rfl) ?_
              refine lv_iload hx hb dX7_chooseRegion_67 (lv_at hl 0 rfl) ?_
              refine lv_isub hx hb dX7_chooseRegion_69 ?_
              refine lv_istore_n (lv' := [(3, .int (y3_16 - r_3)), (6, .int r_3), (5, .int (aim (((x1 * 8) + y4_16) : Int32).toNatClampNeg)), (0, .ref a0), (1, .int x1), (2, .int x2), (4, .int y4_16)]) hx hb dX7_chooseRegion_70 rfl hl (by decide) rfl (fun ls hl => ?_)
              refine lv_iinc (v := (y4_16 + 1)) (lv' := [(4, .int (y4_16 + 1)), (3, .int (y3_16 - r_3)), (6, .int r_3), (5, .int (aim (((x1 * 8) + y4_16) : Int32).toNatClampNeg)), (0, .ref a0), (1, .int x1), (2, .int x2)]) hx hb dX7_chooseRegion_71 hl (k := 6) rfl (by rfl) (by decide) rfl (fun ls hl => ?_)
              refine lv_goto (tgt := 16) hx hb dX7_chooseRegion_74 (by decide) ?_
              exact ih _ _ hf _ _ _ hP hD hS (lv_sub hl [4, 5, 6, 1, 0] rfl)
            · have hf := o_f hc hf
              refine lv_iload hx hb dX7_chooseRegion_63 (lv_at hl 1 rfl) ?_
              cases hf
              exact kR _ _ _ _ hP hD hS dX7_chooseRegion_65
    exact L16 N _ _ hf _ _ _ hP hD hS (lv_sub hl [2, 3, 4, 1, 0] rfl)
  · have hf := o_t hc hf
    refine lv_bipush (v := (-2)) hx hb dX7_chooseRegion_8 (by decide) ?_
    cases hf
    exact kR _ _ _ _ hP hD hS dX7_chooseRegion_10
