abbrev w_X3_forget (kc : Nat → ClassId) (a0 a1 a2 a3 : Nat) (planned : Int32) (plannedWind : Int32) (plannedReady : Int32) : va_W := [(a0, .inr (3, [.ref a1, .ref a2, .ref a3, .int planned, .int plannedWind, .int plannedReady]))]
set_option maxHeartbeats 4000000 in
set_option maxRecDepth 100000 in
theorem c_X3_forget (l : Launch) (D : va_G) (kc : Nat → ClassId) (N : Nat) (a0 a1 a2 a3 : Nat) (planned : Int32) (plannedWind : Int32) (plannedReady : Int32) (planned' : Int32) (hf : f_X3_forget N = some planned') : MV l yX3_forget wsX3_forget ({ frames := 0, cells := 0, slots := 0, locals := 0 }) D kc [.ref a0] (w_X3_forget kc a0 a1 a2 a3 planned plannedWind plannedReady) (w_X3_forget kc a0 a1 a2 a3 planned' plannedWind plannedReady) := by
  refine gM_V (cc := cX3_forget) (maxL := 1) (by decide) rfl (Nat.le_of_ble_eq_true rfl) ?_
  intro p e s m below meth c A ls Q hx hb hml hown hts hN hK hP hD hA hl kR
  have hS : va_S A s.heap s.heap [] := va_S.rf
  have hl : lv_has ls 1 [(0, .ref a0)] := hl
  have in_X3 : ∀ w ∈ u_ws RX3 TX3 6, w ∈ wsX3_forget := by decide +kernel
  have lk_22 := hts (.fieldLink RX3 22 "BalloonMail$Planner" "planned" "Z") (by decide +kernel)
  unfold f_X3_forget at hf
  refine lv_aload_n hx hb dX3_forget_0 rfl (lv_at hl 0 rfl) ?_
  refine lv_iconst (v := 0) hx hb dX3_forget_1 (by decide) ?_
  refine va_put (D := D) (ci := 3) (v := .int 0) (ty := .boolean) (C := RX3) (T := TX3) (N := 6) hx hb hts in_X3 tyX3 tyX3_ok nmX3 hown hK hP hD hS 0 rfl rfl 3 (by decide) lk_22 (fun _ h9 => h9) rfl (by decide +kernel) rfl rfl (Nat.le_of_ble_eq_true rfl) dX3_forget_2 (fun H locs hP hD hS => ?_)
  have hP : va_P D vwCl (w_X3_forget kc a0 a1 a2 a3 0 plannedWind plannedReady) H := hP
  have hD : va_D A (w_X3_forget kc a0 a1 a2 a3 0 plannedWind plannedReady) := hD
  cases hf
  exact kR _ _ _ _ hP hD hS dX3_forget_5
abbrev w_X3_total (kc : Nat → ClassId) (a0 a1 a2 a3 : Nat) (planned : Int32) (plannedWind : Int32) (plannedReady : Int32) (best : Nat → Int64) : va_W := [(a0, .inr (3, [.ref a1, .ref a2, .ref a3, .int planned, .int plannedWind, .int plannedReady])), (a2, .inl (kc 2, 5632, .inr (.inl best)))]
set_option maxHeartbeats 4000000 in
set_option maxRecDepth 100000 in
theorem c_X3_total (l : Launch) (D : va_G) (kc : Nat → ClassId) (N : Nat) (a0 a1 a2 a3 : Nat) (planned : Int32) (plannedWind : Int32) (plannedReady : Int32) (best : Nat → Int64) (r_ : Int64) (hf : f_X3_total N planned best = some r_) : ML l yX3_total wsX3_total ({ frames := 0, cells := 0, slots := 0, locals := 0 }) D kc [.ref a0] (w_X3_total kc a0 a1 a2 a3 planned plannedWind plannedReady best) (w_X3_total kc a0 a1 a2 a3 planned plannedWind plannedReady best) r_ := by
  refine gM_L (cc := cX3_total) (maxL := 1) (by decide) rfl (Nat.le_of_ble_eq_true rfl) ?_
  intro p e s m below meth c A ls Q hx hb hml hown hts hN hK hP hD hA hl kR
  have hS : va_S A s.heap s.heap [] := va_S.rf
  have hl : lv_has ls 1 [(0, .ref a0)] := hl
  have in_X3 : ∀ w ∈ u_ws RX3 TX3 6, w ∈ wsX3_total := by decide +kernel
  have lk_22 := hts (.fieldLink RX3 22 "BalloonMail$Planner" "planned" "Z") (by decide +kernel)
  have lk_15 := hts (.fieldLink RX3 15 "BalloonMail$Planner" "best" "[J") (by decide +kernel)
  unfold f_X3_total at hf
  refine lv_aload_n hx hb dX3_total_0 rfl (lv_at hl 0 rfl) ?_
  refine va_get (D := D) (ci := 3) (v := .int planned) (C := RX3) (T := TX3) (N := 6) hx hb hts in_X3 hown hK hP 0 rfl rfl 3 (by decide) lk_22 (fun _ h9 => h9) rfl dX3_total_1 ?_
  refine lv_if_eq (tgt := 16) hx hb dX3_total_4 (by decide) (fun hc => ?_) (fun hc => ?_)
  · have hf := o_t hc hf
    refine lv_lconst (v := 0) hx hb dX3_total_16 (by decide) ?_
    cases hf
    exact kR _ _ _ _ hP hD hS dX3_total_17
  · have hf := o_f hc hf
    refine lv_aload_n hx hb dX3_total_7 rfl (lv_at hl 0 rfl) ?_
    refine va_get (D := D) (ci := 3) (v := .ref a2) (C := RX3) (T := TX3) (N := 6) hx hb hts in_X3 hown hK hP 0 rfl rfl 1 (by decide) lk_15 (fun _ h9 => h9) rfl dX3_total_8 ?_
    refine lv_iconst (v := 0) hx hb dX3_total_11 (by decide) ?_
    obtain ⟨hi, hf⟩ := gIx_some hf
    refine va_lald hx hb hK hP 1 2 rfl rfl hi dX3_total_12 ?_
    refine lv_goto (tgt := 17) hx hb dX3_total_13 (by decide) ?_
    cases hf
    exact kR _ _ _ _ hP hD hS dX3_total_17
abbrev w_X3_dayOf (kc : Nat → ClassId) (a0 a1 a2 a3 : Nat) (planned : Int32) (plannedWind : Int32) (plannedReady : Int32) (chosen : Nat → Int32) : va_W := [(a0, .inr (3, [.ref a1, .ref a2, .ref a3, .int planned, .int plannedWind, .int plannedReady])), (a3, .inl (kc 1, 10, .inl chosen))]
set_option maxHeartbeats 4000000 in
set_option maxRecDepth 100000 in
theorem c_X3_dayOf (l : Launch) (D : va_G) (kc : Nat → ClassId) (N : Nat) (a0 a1 a2 a3 : Nat) (planned : Int32) (plannedWind : Int32) (plannedReady : Int32) (chosen : Nat → Int32) (x1 : Int32) (r_ : Int32) (hf : f_X3_dayOf N chosen x1 = some r_) : MI l yX3_dayOf wsX3_dayOf ({ frames := 0, cells := 0, slots := 0, locals := 0 }) D kc [.ref a0, .int x1] (w_X3_dayOf kc a0 a1 a2 a3 planned plannedWind plannedReady chosen) (w_X3_dayOf kc a0 a1 a2 a3 planned plannedWind plannedReady chosen) r_ := by
  refine gM_I (cc := cX3_dayOf) (maxL := 2) (by decide) rfl (Nat.le_of_ble_eq_true rfl) ?_
  intro p e s m below meth c A ls Q hx hb hml hown hts hN hK hP hD hA hl kR
  have hS : va_S A s.heap s.heap [] := va_S.rf
  have hl : lv_has ls 2 [(0, .ref a0), (1, .int x1)] := hl
  have in_X3 : ∀ w ∈ u_ws RX3 TX3 6, w ∈ wsX3_dayOf := by decide +kernel
  have lk_18 := hts (.fieldLink RX3 18 "BalloonMail$Planner" "chosen" "[I") (by decide +kernel)
  unfold f_X3_dayOf at hf
  refine lv_iload_n hx hb dX3_dayOf_0 rfl (lv_at hl 1 rfl) ?_
  refine lv_if_lt (tgt := 19) hx hb dX3_dayOf_1 (by decide) (fun hc => ?_) (fun hc => ?_)
  · have hf := o_t hc hf
    refine lv_bipush (v := (-2)) hx hb dX3_dayOf_19 (by decide) ?_
    cases hf
    exact kR _ _ _ _ hP hD hS dX3_dayOf_21
  · have hf := o_f hc hf
    refine lv_iload_n hx hb dX3_dayOf_4 rfl (lv_at hl 1 rfl) ?_
    refine lv_bipush (v := 10) hx hb dX3_dayOf_5 (by decide) ?_
    refine lv_icmp_ge (tgt := 19) hx hb dX3_dayOf_7 (by decide) (fun hc => ?_) (fun hc => ?_)
    · have hf := o_t hc hf
      refine lv_bipush (v := (-2)) hx hb dX3_dayOf_19 (by decide) ?_
      cases hf
      exact kR _ _ _ _ hP hD hS dX3_dayOf_21
    · have hf := o_f hc hf
      refine lv_aload_n hx hb dX3_dayOf_10 rfl (lv_at hl 0 rfl) ?_
      refine va_get (D := D) (ci := 3) (v := .ref a3) (C := RX3) (T := TX3) (N := 6) hx hb hts in_X3 hown hK hP 0 rfl rfl 2 (by decide) lk_18 (fun _ h9 => h9) rfl dX3_dayOf_11 ?_
      refine lv_iload_n hx hb dX3_dayOf_14 rfl (lv_at hl 1 rfl) ?_
      obtain ⟨hi, hf⟩ := gIx_some hf
      refine va_iald hx hb hK hP 1 1 rfl rfl hi dX3_dayOf_15 ?_
      refine lv_goto (tgt := 21) hx hb dX3_dayOf_16 (by decide) ?_
      cases hf
      exact kR _ _ _ _ hP hD hS dX3_dayOf_21
abbrev w_X3_weighGains (kc : Nat → ClassId) (a0 a1 a2 a3 a4 a5 a6 a7 a8 a9 a10 a11 a12 a13 a14 a15 a16 a17 a18 a19 a20 a21 : Nat) (now : Nat → Int64) (regions : Int32) (balloons : Int32) (letters : Int32) (loft : Int32) (start : Int32) (seed : Int32) (pigeons : Nat → Int32) (planned : Int32) (plannedWind : Int32) (plannedReady : Int32) (capacity : Nat → Int32) (comeback : Nat → Int32) (count : Int32) (turnCount : Int32) (land : Nat → Int32) (risk : Nat → Int32) (gain : Nat → Int64) (then_ : Nat → Int64) (follow : Nat → Int32) : va_W := [(a0, .inr (0, [.ref a1, .ref a2])), (a1, .inl (kc 2, 6, .inr (.inl now))), (a3, .inr (5, [.ref a4, .ref a5, .ref a6, .ref a7, .ref a8, .ref a9, .ref a10, .ref a11, .int regions, .int balloons, .int letters, .int loft, .int start, .int seed])), (a9, .inl (kc 1, 10, .inl pigeons)), (a12, .inr (3, [.ref a13, .ref a14, .ref a15, .int planned, .int plannedWind, .int plannedReady])), (a8, .inl (kc 1, 10, .inl capacity)), (a7, .inl (kc 1, 8, .inl comeback)), (a4, .inr (7, [.int count, .int turnCount, .ref a16, .ref a17, .ref a18, .ref a19, .ref a20, .ref a21])), (a19, .inl (kc 1, 54, .inl land)), (a5, .inl (kc 1, 8, .inl risk)), (a13, .inl (kc 2, 90, .inr (.inl gain))), (a2, .inl (kc 2, 6, .inr (.inl then_))), (a18, .inl (kc 1, 36, .inl follow))]
set_option maxHeartbeats 4000000 in
set_option maxRecDepth 100000 in
theorem c_X3_weighGains (l : Launch) (D : va_G) (kc : Nat → ClassId) (N : Nat) (a0 a1 a2 a3 a4 a5 a6 a7 a8 a9 a10 a11 a12 a13 a14 a15 a16 a17 a18 a19 a20 a21 : Nat) (now : Nat → Int64) (regions : Int32) (balloons : Int32) (letters : Int32) (loft : Int32) (start : Int32) (seed : Int32) (pigeons : Nat → Int32) (planned : Int32) (plannedWind : Int32) (plannedReady : Int32) (capacity : Nat → Int32) (comeback : Nat → Int32) (count : Int32) (turnCount : Int32) (land : Nat → Int32) (risk : Nat → Int32) (gain : Nat → Int64) (then_ : Nat → Int64) (follow : Nat → Int32) (x2 : Int32) (now' : Nat → Int64) (gain' : Nat → Int64) (then_' : Nat → Int64) (hf : f_X3_weighGains N now regions balloons pigeons capacity comeback count land risk gain then_ follow x2 = some (now', gain', then_')) : MV l yX3_weighGains wsX3_weighGains ({ frames := 4, cells := 0, slots := 0, locals := 96 }) D kc [.ref a12, .ref a3, .int x2, .ref a0] (w_X3_weighGains kc a0 a1 a2 a3 a4 a5 a6 a7 a8 a9 a10 a11 a12 a13 a14 a15 a16 a17 a18 a19 a20 a21 now regions balloons letters loft start seed pigeons planned plannedWind plannedReady capacity comeback count turnCount land risk gain then_ follow) (w_X3_weighGains kc a0 a1 a2 a3 a4 a5 a6 a7 a8 a9 a10 a11 a12 a13 a14 a15 a16 a17 a18 a19 a20 a21 now' regions balloons letters loft start seed pigeons planned plannedWind plannedReady capacity comeback count turnCount land risk gain' then_' follow) := by
  refine gM_V (cc := cX3_weighGains) (maxL := 9) (by decide) rfl (Nat.le_of_ble_eq_true rfl) ?_
  intro p e s m below meth c A ls Q hx hb hml hown hts hN hK hP hD hA hl kR
  have hS : va_S A s.heap s.heap [] := va_S.rf
  have hl : lv_has ls 9 [(0, .ref a12), (1, .ref a3), (2, .int x2), (3, .ref a0)] := hl
  have in_X5 : ∀ w ∈ u_ws RX5 TX5 14, w ∈ wsX3_weighGains := by decide +kernel
  have lk_37 := hts (.fieldLink RX3 37 "BalloonMail$Siege" "balloons" "I") (by decide +kernel)
  have lk_55 := hts (.fieldLink RX3 55 "BalloonMail$Siege" "pigeons" "[I") (by decide +kernel)
  have in_X3 : ∀ w ∈ u_ws RX3 TX3 6, w ∈ wsX3_weighGains := by decide +kernel
  have lk_9 := hts (.fieldLink RX3 9 "BalloonMail$Planner" "gain" "[J") (by decide +kernel)
  have lk_62 := hts (.fieldLink RX3 62 "BalloonMail$Siege" "capacity" "[I") (by decide +kernel)
  have lk_69 := hts (.fieldLink RX3 69 "BalloonMail$Siege" "winds" "LBalloonMail$Winds;") (by decide +kernel)
  unfold f_X3_weighGains at hf
  refine lv_aload_n hx hb dX3_weighGains_0 rfl (lv_at hl 3 rfl) ?_
  refine lv_iload_n hx hb dX3_weighGains_1 rfl (lv_at hl 2 rfl) ?_
  obtain ⟨now_1, hc, hf⟩ := ob1_some hf
  refine g_VV (As := [.int x2]) (rest := []) (ws' := (w_X3_weighGains kc a0 a1 a2 a3 a4 a5 a6 a7 a8 a9 a10 a11 a12 a13 a14 a15 a16 a17 a18 a19 a20 a21 now_1 regions balloons letters loft start seed pigeons planned plannedWind plannedReady capacity comeback count turnCount land risk gain then_ follow)) ⟨hx, hb, hml, hown, hts⟩ hN hK hP hD hS hA (c_X0_begin l D kc N a0 a1 a2 now x2 now_1 hc) (cwV 1 hts gX3_weighGains_X0_begin rfl rfl rfl (by decide +kernel) ⟨Nat.le_of_ble_eq_true rfl, Nat.le_of_ble_eq_true rfl⟩) [0, 1] [2, 3, 4, 5, 6, 7, 8, 9, 10, 11, 12] [11, 12, 0, 1, 2, 3, 4, 5, 6, 7, 8, 9, 10] (by exact ⟨rfl, rfl, by decide, rfl⟩) 0 0 rfl rfl rfl rfl hl.1 rfl (Nat.le_of_ble_eq_true rfl) dX3_weighGains_2 ⟨Nat.le_refl _, Nat.le_refl _⟩ (fun H locs hP hD hS => ?_)
  refine lv_iconst (v := 0) hx hb dX3_weighGains_5 (by decide) ?_
  refine lv_istore (lv' := [(4, .int 0), (0, .ref a12), (1, .ref a3), (2, .int x2), (3, .ref a0)]) hx hb dX3_weighGains_6 hl (by decide) rfl (fun ls hl => ?_)
  have L8 : ∀ (n : Nat) (y4_8 : Int32) (now_8 : Nat → Int64) (gain_8 : Nat → Int64) (then__8 : Nat → Int64) (y4_8o : Int32) (now_8o : Nat → Int64) (gain_8o : Nat → Int64) (then__8o : Nat → Int64), f_X3_weighGains_8 N regions balloons pigeons capacity comeback count land risk follow n y4_8 now_8 gain_8 then__8 = some (y4_8o, now_8o, gain_8o, then__8o) → (∀ (H : Heap) (locs : List Loc) (ls : Array Slot), va_P D vwCl (w_X3_weighGains kc a0 a1 a2 a3 a4 a5 a6 a7 a8 a9 a10 a11 a12 a13 a14 a15 a16 a17 a18 a19 a20 a21 now_8o regions balloons letters loft start seed pigeons planned plannedWind plannedReady capacity comeback count turnCount land risk gain_8o then__8o follow) H → va_D A (w_X3_weighGains kc a0 a1 a2 a3 a4 a5 a6 a7 a8 a9 a10 a11 a12 a13 a14 a15 a16 a17 a18 a19 a20 a21 now_8o regions balloons letters loft start seed pigeons planned plannedWind plannedReady capacity comeback count turnCount land risk gain_8o then__8o follow) → va_S A s.heap H locs → lv_has ls 9 [(0, .ref a12), (1, .ref a3), (2, .int x2), (3, .ref a0), (4, .int y4_8o)] → W p l e ({ frames := 4, cells := 0, slots := 0, locals := 96 }) s m (([.ref a12, .ref a3, .int x2, .ref a0] : List Value).toArray) below meth c H locs 0 0 Q (F0 m 105 ls [])) → ∀ (H : Heap) (locs : List Loc) (ls : Array Slot), va_P D vwCl (w_X3_weighGains kc a0 a1 a2 a3 a4 a5 a6 a7 a8 a9 a10 a11 a12 a13 a14 a15 a16 a17 a18 a19 a20 a21 now_8 regions balloons letters loft start seed pigeons planned plannedWind plannedReady capacity comeback count turnCount land risk gain_8 then__8 follow) H → va_D A (w_X3_weighGains kc a0 a1 a2 a3 a4 a5 a6 a7 a8 a9 a10 a11 a12 a13 a14 a15 a16 a17 a18 a19 a20 a21 now_8 regions balloons letters loft start seed pigeons planned plannedWind plannedReady capacity comeback count turnCount land risk gain_8 then__8 follow) → va_S A s.heap H locs → lv_has ls 9 [(0, .ref a12), (1, .ref a3), (2, .int x2), (3, .ref a0), (4, .int y4_8)] → W p l e ({ frames := 4, cells := 0, slots := 0, locals := 96 }) s m (([.ref a12, .ref a3, .int x2, .ref a0] : List Value).toArray) below meth c H locs 0 0 Q (F0 m 8 ls []) := by
    intro n
    induction n with
    | zero => intro _ _ _ _ _ _ _ _ hf; rw [f_X3_weighGains_8.eq_1] at hf; cases hf
    | succ n ih =>
      intro y4_8 now_8 gain_8 then__8 y4_8o now_8o gain_8o then__8o hf hk H locs ls hP hD hS hl
      rw [f_X3_weighGains_8.eq_2] at hf
      refine lv_iload hx hb dX3_weighGains_8 (lv_at hl 4 rfl) ?_
      refine lv_bipush (v := 9) hx hb dX3_weighGains_10 (by decide) ?_
      refine lv_icmp_ge (tgt := 105) hx hb dX3_weighGains_12 (by decide) (fun hc => ?_) (fun hc => ?_)
      · have hf := o_t hc hf
        cases hf
        exact hk _ _ _ hP hD hS (lv_sub hl [0, 1, 2, 3, 4] rfl)
      · have hf := o_f hc hf
        refine lv_iconst (v := 0) hx hb dX3_weighGains_15 (by decide) ?_
        refine lv_istore (lv' := [(5, .int 0), (0, .ref a12), (1, .ref a3), (2, .int x2), (3, .ref a0), (4, .int y4_8)]) hx hb dX3_weighGains_16 hl (by decide) rfl (fun ls hl => ?_)
        have L18 : ∀ (n : Nat) (y5_18 : Int32) (gain_18 : Nat → Int64) (y5_18o : Int32) (gain_18o : Nat → Int64), f_X3_weighGains_18 N regions balloons pigeons capacity comeback count land risk y4_8 now_8 n y5_18 gain_18 = some (y5_18o, gain_18o) → (∀ (H : Heap) (locs : List Loc) (ls : Array Slot), va_P D vwCl (w_X3_weighGains kc a0 a1 a2 a3 a4 a5 a6 a7 a8 a9 a10 a11 a12 a13 a14 a15 a16 a17 a18 a19 a20 a21 now_8 regions balloons letters loft start seed pigeons planned plannedWind plannedReady capacity comeback count turnCount land risk gain_18o then__8 follow) H → va_D A (w_X3_weighGains kc a0 a1 a2 a3 a4 a5 a6 a7 a8 a9 a10 a11 a12 a13 a14 a15 a16 a17 a18 a19 a20 a21 now_8 regions balloons letters loft start seed pigeons planned plannedWind plannedReady capacity comeback count turnCount land risk gain_18o then__8 follow) → va_S A s.heap H locs → lv_has ls 9 [(0, .ref a12), (1, .ref a3), (2, .int x2), (3, .ref a0), (4, .int y4_8), (5, .int y5_18o)] → W p l e ({ frames := 4, cells := 0, slots := 0, locals := 96 }) s m (([.ref a12, .ref a3, .int x2, .ref a0] : List Value).toArray) below meth c H locs 0 0 Q (F0 m 91 ls [])) → ∀ (H : Heap) (locs : List Loc) (ls : Array Slot), va_P D vwCl (w_X3_weighGains kc a0 a1 a2 a3 a4 a5 a6 a7 a8 a9 a10 a11 a12 a13 a14 a15 a16 a17 a18 a19 a20 a21 now_8 regions balloons letters loft start seed pigeons planned plannedWind plannedReady capacity comeback count turnCount land risk gain_18 then__8 follow) H → va_D A (w_X3_weighGains kc a0 a1 a2 a3 a4 a5 a6 a7 a8 a9 a10 a11 a12 a13 a14 a15 a16 a17 a18 a19 a20 a21 now_8 regions balloons letters loft start seed pigeons planned plannedWind plannedReady capacity comeback count turnCount land risk gain_18 then__8 follow) → va_S A s.heap H locs → lv_has ls 9 [(0, .ref a12), (1, .ref a3), (2, .int x2), (3, .ref a0), (4, .int y4_8), (5, .int y5_18)] → W p l e ({ frames := 4, cells := 0, slots := 0, locals := 96 }) s m (([.ref a12, .ref a3, .int x2, .ref a0] : List Value).toArray) below meth c H locs 0 0 Q (F0 m 18 ls []) := by
          intro n
          induction n with
          | zero => intro _ _ _ _ hf; rw [f_X3_weighGains_18.eq_1] at hf; cases hf
          | succ n ih =>
            intro y5_18 gain_18 y5_18o gain_18o hf hk H locs ls hP hD hS hl
            rw [f_X3_weighGains_18.eq_2] at hf
            refine lv_iload hx hb dX3_weighGains_18 (lv_at hl 5 rfl) ?_
            refine lv_aload_n hx hb dX3_weighGains_20 rfl (lv_at hl 1 rfl) ?_
            refine va_get (D := D) (ci := 5) (v := .int balloons) (C := RX5) (T := TX5) (N := 14) hx hb hts in_X5 hown hK hP 2 rfl rfl 9 (by decide) lk_37 (fun _ h9 => h9) rfl dX3_weighGains_21 ?_
            refine lv_icmp_ge (tgt := 91) hx hb dX3_weighGains_24 (by decide) (fun hc => ?_) (fun hc => ?_)
            · have hf := o_t hc hf
              cases hf
              exact hk _ _ _ hP hD hS (lv_sub hl [0, 1, 2, 3, 4, 5] rfl)
            · have hf := o_f hc hf
              refine lv_aload_n hx hb dX3_weighGains_27 rfl (lv_at hl 1 rfl) ?_
              refine va_get (D := D) (ci := 5) (v := .ref a9) (C := RX5) (T := TX5) (N := 14) hx hb hts in_X5 hown hK hP 2 rfl rfl 5 (by decide) lk_55 (fun _ h9 => h9) rfl dX3_weighGains_28 ?_
              refine lv_iload hx hb dX3_weighGains_31 (lv_at hl 5 rfl) ?_
              obtain ⟨hi, hf⟩ := gIx_some hf
              refine va_iald hx hb hK hP 3 1 rfl rfl hi dX3_weighGains_33 ?_
              refine lv_istore (lv' := [(6, .int (pigeons (y5_18 : Int32).toNatClampNeg)), (0, .ref a12), (1, .ref a3), (2, .int x2), (3, .ref a0), (4, .int y4_8), (5, .int y5_18)]) hx hb dX3_weighGains_34 hl (by decide) rfl (fun ls hl => ?_)
              refine lv_bipush (v := 10) hx hb dX3_weighGains_36 (by decide) ?_
              refine lv_bipush (v := 8) hx hb dX3_weighGains_38 (by decide) ?_
              refine lv_iload hx hb dX3_weighGains_40 (lv_at hl 5 rfl) ?_
              refine lv_isub hx hb dX3_weighGains_42 ?_
              refine lv_iconst (v := 4) hx hb dX3_weighGains_43 (by decide) ?_
              refine lv_iadd hx hb dX3_weighGains_44 ?_
              refine lv_iload hx hb dX3_weighGains_45 (lv_at hl 0 rfl) ?_
              refine lv_isub hx hb dX3_weighGains_47 ?_
              obtain ⟨r_2, hc, hf⟩ := ob1_some hf
              refine g_NL (As := [.int 10, .int (((8 - y4_8) + 4) - (pigeons (y5_18 : Int32).toNatClampNeg))]) (rest := []) (ws' := (w_X3_weighGains kc a0 a1 a2 a3 a4 a5 a6 a7 a8 a9 a10 a11 a12 a13 a14 a15 a16 a17 a18 a19 a20 a21 now_8 regions balloons letters loft start seed pigeons planned plannedWind plannedReady capacity comeback count turnCount land risk gain_18 then__8 follow)) ⟨hx, hb, hml, hown, hts⟩ hN hK hP hD hS hA (c_X8_power l D kc N 10 (((8 - y4_8) + 4) - (pigeons (y5_18 : Int32).toNatClampNeg)) r_2 hc) ⟨va_cnB 2 hts gX3_weighGains_X8_power_n58 rfl rfl rfl hN.2 (hts (.initialized RX8) (by decide +kernel)) (by decide +kernel) ⟨Nat.le_of_ble_eq_true rfl, Nat.le_of_ble_eq_true rfl⟩, hts (.static yX8_power) (by decide +kernel), trivial⟩ [] [0, 1, 2, 3, 4, 5, 6, 7, 8, 9, 10, 11, 12] [0, 1, 2, 3, 4, 5, 6, 7, 8, 9, 10, 11, 12] (by exact ⟨rfl, rfl, by decide, rfl⟩) rfl hl.1 rfl (Nat.le_of_ble_eq_true rfl) dX3_weighGains_48 ⟨Nat.le_refl _, Nat.le_refl _⟩ (fun H locs hP hD hS => ?_)
              refine lv_lstore (lv' := [(7, .long r_2), (6, .int (pigeons (y5_18 : Int32).toNatClampNeg)), (0, .ref a12), (1, .ref a3), (2, .int x2), (3, .ref a0), (4, .int y4_8), (5, .int y5_18)]) hx hb dX3_weighGains_51 hl (by decide) rfl (fun ls hl => ?_)
              refine lv_aload_n hx hb dX3_weighGains_53 rfl (lv_at hl 2 rfl) ?_
              refine va_get (D := D) (ci := 3) (v := .ref a13) (C := RX3) (T := TX3) (N := 6) hx hb hts in_X3 hown hK hP 4 rfl rfl 0 (by decide) lk_9 (fun _ h9 => h9) rfl dX3_weighGains_54 ?_
              refine lv_iload hx hb dX3_weighGains_57 (lv_at hl 7 rfl) ?_
              refine lv_bipush (v := 9) hx hb dX3_weighGains_59 (by decide) ?_
              refine lv_imul hx hb dX3_weighGains_61 ?_
              refine lv_iload hx hb dX3_weighGains_62 (lv_at hl 6 rfl) ?_
              refine lv_iadd hx hb dX3_weighGains_64 ?_
              refine lv_aload_n hx hb dX3_weighGains_65 rfl (lv_at hl 3 rfl) ?_
              refine va_get (D := D) (ci := 5) (v := .ref a8) (C := RX5) (T := TX5) (N := 14) hx hb hts in_X5 hown hK hP 2 rfl rfl 4 (by decide) lk_62 (fun _ h9 => h9) rfl dX3_weighGains_66 ?_
              refine lv_iload hx hb dX3_weighGains_69 (lv_at hl 7 rfl) ?_
              obtain ⟨hi, hf⟩ := gIx_some hf
              refine va_iald hx hb hK hP 5 1 rfl rfl hi dX3_weighGains_71 ?_
              refine lv_i2l (v := ((capacity (y5_18 : Int32).toNatClampNeg) : Int32).toInt64) hx hb dX3_weighGains_72 rfl ?_
              refine lv_aload_n hx hb dX3_weighGains_73 rfl (lv_at hl 5 rfl) ?_
              refine lv_aload_n hx hb dX3_weighGains_74 rfl (lv_at hl 3 rfl) ?_
              refine lv_iload hx hb dX3_weighGains_75 (lv_at hl 1 rfl) ?_
              obtain ⟨r_3, hc, hf⟩ := ob1_some hf
              refine g_VL (As := [.ref a3, .int (pigeons (y5_18 : Int32).toNatClampNeg)]) (rest := [.long (((capacity (y5_18 : Int32).toNatClampNeg) : Int32).toInt64), .int ((y5_18 * 9) + y4_8), .ref a13]) (ws' := (w_X3_weighGains kc a0 a1 a2 a3 a4 a5 a6 a7 a8 a9 a10 a11 a12 a13 a14 a15 a16 a17 a18 a19 a20 a21 now_8 regions balloons letters loft start seed pigeons planned plannedWind plannedReady capacity comeback count turnCount land risk gain_18 then__8 follow)) ⟨hx, hb, hml, hown, hts⟩ hN hK hP hD hS hA (c_X0_answered l D kc N a3 a4 a5 a6 a7 a8 a9 a10 a11 a16 a17 a18 a19 a20 a21 a0 a1 a2 regions balloons letters loft start seed comeback count turnCount now_8 land risk (pigeons (y5_18 : Int32).toNatClampNeg) r_3 hc) (cwV 2 hts gX3_weighGains_X0_answered rfl rfl rfl (by decide +kernel) ⟨Nat.le_of_ble_eq_true rfl, Nat.le_of_ble_eq_true rfl⟩) [2, 6, 7, 0, 1, 8, 9] [3, 4, 5, 10, 11, 12] [9, 10, 6, 0, 1, 2, 7, 8, 11, 12, 3, 4, 5] (by exact ⟨rfl, rfl, by decide, rfl⟩) 0 0 rfl rfl rfl rfl hl.1 rfl (Nat.le_of_ble_eq_true rfl) dX3_weighGains_77 ⟨Nat.le_refl _, Nat.le_refl _⟩ (fun H locs hP hD hS => ?_)
              refine lv_lmul hx hb dX3_weighGains_80 ?_
              refine lv_lload hx hb dX3_weighGains_81 (lv_at hl 0 rfl) ?_
              refine lv_lmul hx hb dX3_weighGains_83 ?_
              obtain ⟨hi, hf⟩ := gIx_some hf
              refine va_last hx hb hK hP hD hS 10 2 rfl rfl hi dX3_weighGains_84 (fun H locs hP hD hS => ?_)
              have hP : va_P D vwCl (w_X3_weighGains kc a0 a1 a2 a3 a4 a5 a6 a7 a8 a9 a10 a11 a12 a13 a14 a15 a16 a17 a18 a19 a20 a21 now_8 regions balloons letters loft start seed pigeons planned plannedWind plannedReady capacity comeback count turnCount land risk (vp_updL gain_18 (((y5_18 * 9) + y4_8) : Int32).toNatClampNeg (((((capacity (y5_18 : Int32).toNatClampNeg) : Int32).toInt64) * r_3) * r_2)) then__8 follow) H := hP
              have hD : va_D A (w_X3_weighGains kc a0 a1 a2 a3 a4 a5 a6 a7 a8 a9 a10 a11 a12 a13 a14 a15 a16 a17 a18 a19 a20 a21 now_8 regions balloons letters loft start seed pigeons planned plannedWind plannedReady capacity comeback count turnCount land risk (vp_updL gain_18 (((y5_18 * 9) + y4_8) : Int32).toNatClampNeg (((((capacity (y5_18 : Int32).toNatClampNeg) : Int32).toInt64) * r_3) * r_2)) then__8 follow) := hD
              refine lv_iinc (v := (y5_18 + 1)) (lv' := [(5, .int (y5_18 + 1)), (7, .long r_2), (6, .int (pigeons (y5_18 : Int32).toNatClampNeg)), (0, .ref a12), (1, .ref a3), (2, .int x2), (3, .ref a0), (4, .int y4_8)]) hx hb dX3_weighGains_85 hl (k := 7) rfl (by rfl) (by decide) rfl (fun ls hl => ?_)
              refine lv_goto (tgt := 18) hx hb dX3_weighGains_88 (by decide) ?_
              exact ih _ _ _ _ hf hk _ _ _ hP hD hS (lv_sub hl [3, 4, 5, 6, 7, 0] rfl)
        obtain ⟨y5_18o, gain_18o, hc, hf⟩ := ob2_some hf
        refine L18 N _ _ _ _ hc (fun H locs ls hP hD hS hl => ?_) _ _ _ hP hD hS (lv_sub hl [1, 2, 3, 4, 5, 0] rfl)
        refine lv_aload_n hx hb dX3_weighGains_91 rfl (lv_at hl 3 rfl) ?_
        refine lv_aload_n hx hb dX3_weighGains_92 rfl (lv_at hl 1 rfl) ?_
        refine va_get (D := D) (ci := 5) (v := .ref a4) (C := RX5) (T := TX5) (N := 14) hx hb hts in_X5 hown hK hP 2 rfl rfl 0 (by decide) lk_69 (fun _ h9 => h9) rfl dX3_weighGains_93 ?_
        obtain ⟨then__4, now_5, hc, hf⟩ := ob2_some hf
        refine g_VV (As := [.ref a4]) (rest := []) (ws' := (w_X3_weighGains kc a0 a1 a2 a3 a4 a5 a6 a7 a8 a9 a10 a11 a12 a13 a14 a15 a16 a17 a18 a19 a20 a21 now_5 regions balloons letters loft start seed pigeons planned plannedWind plannedReady capacity comeback count turnCount land risk gain_18o then__4 follow)) ⟨hx, hb, hml, hown, hts⟩ hN hK hP hD hS hA (c_X0_passDay l D kc N a0 a1 a2 a4 a16 a17 a18 a19 a20 a21 then__8 count turnCount now_8 follow then__4 now_5 hc) (cwV 1 hts gX3_weighGains_X0_passDay rfl rfl rfl (by decide +kernel) ⟨Nat.le_of_ble_eq_true rfl, Nat.le_of_ble_eq_true rfl⟩) [0, 11, 7, 1, 12] [2, 3, 4, 5, 6, 8, 9, 10] [8, 11, 0, 1, 2, 3, 4, 10, 5, 6, 7, 9, 12] (by exact ⟨rfl, rfl, by decide, rfl⟩) 0 0 rfl rfl rfl rfl hl.1 rfl (Nat.le_of_ble_eq_true rfl) dX3_weighGains_96 ⟨Nat.le_refl _, Nat.le_refl _⟩ (fun H locs hP hD hS => ?_)
        refine lv_iinc (v := (y4_8 + 1)) (lv' := [(4, .int (y4_8 + 1)), (0, .ref a12), (1, .ref a3), (2, .int x2), (3, .ref a0), (5, .int y5_18o)]) hx hb dX3_weighGains_99 hl (k := 4) rfl (by rfl) (by decide) rfl (fun ls hl => ?_)
        refine lv_goto (tgt := 8) hx hb dX3_weighGains_102 (by decide) ?_
        exact ih _ _ _ _ _ _ _ _ hf hk _ _ _ hP hD hS (lv_sub hl [1, 2, 3, 4, 0] rfl)
  obtain ⟨y4_8o, now_8o, gain_8o, then__8o, hc, hf⟩ := ob4_some hf
  refine L8 N _ _ _ _ _ _ _ _ hc (fun H locs ls hP hD hS hl => ?_) _ _ _ hP hD hS (lv_sub hl [1, 2, 3, 4, 0] rfl)
  cases hf
  exact kR _ _ _ _ hP hD hS dX3_weighGains_105
abbrev w_X3_isIn (kc : Nat → ClassId) : va_W := []
set_option maxHeartbeats 4000000 in
set_option maxRecDepth 100000 in
theorem c_X3_isIn (l : Launch) (D : va_G) (kc : Nat → ClassId) (N : Nat) (x0 : Int32) (x1 : Int32) (r_ : Int32) (hf : f_X3_isIn N x0 x1 = some r_) : MZ l yX3_isIn wsX3_isIn ({ frames := 0, cells := 0, slots := 0, locals := 0 }) D kc [.int x0, .int x1] (w_X3_isIn kc ) (w_X3_isIn kc ) r_ := by
  refine gM_Z (cc := cX3_isIn) (maxL := 2) (by decide) rfl (Nat.le_of_ble_eq_true rfl) ?_
  intro p e s m below meth c A ls Q hx hb hml hown hts hN hK hP hD hA hl kR
  have hS : va_S A s.heap s.heap [] := va_S.rf
  have hl : lv_has ls 2 [(0, .int x0), (1, .int x1)] := hl
  unfold f_X3_isIn at hf
  refine lv_iload_n hx hb dX3_isIn_0 rfl (lv_at hl 0 rfl) ?_
  refine lv_iload_n hx hb dX3_isIn_1 rfl (lv_at hl 1 rfl) ?_
  refine lv_ishr hx hb dX3_isIn_2 ?_
  refine lv_iconst (v := 1) hx hb dX3_isIn_3 (by decide) ?_
  refine lv_iand hx hb dX3_isIn_4 ?_
  refine lv_iconst (v := 1) hx hb dX3_isIn_5 (by decide) ?_
  refine lv_icmp_ne (tgt := 13) hx hb dX3_isIn_6 (by decide) (fun hc => ?_) (fun hc => ?_)
  · have hf := o_f hc hf
    refine lv_iconst (v := 0) hx hb dX3_isIn_13 (by decide) ?_
    cases hf
    exact kR _ _ _ _ (Or.inl rfl) hP hD hS dX3_isIn_14
  · have hf := o_t hc hf
    refine lv_iconst (v := 1) hx hb dX3_isIn_9 (by decide) ?_
    refine lv_goto (tgt := 14) hx hb dX3_isIn_10 (by decide) ?_
    cases hf
    exact kR _ _ _ _ (Or.inr rfl) hP hD hS dX3_isIn_14
abbrev w_X3_totalFlying (kc : Nat → ClassId) (a0 a1 a2 a3 : Nat) (planned : Int32) (plannedWind : Int32) (plannedReady : Int32) (gain : Nat → Int64) (best : Nat → Int64) : va_W := [(a0, .inr (3, [.ref a1, .ref a2, .ref a3, .int planned, .int plannedWind, .int plannedReady])), (a1, .inl (kc 2, 90, .inr (.inl gain))), (a2, .inl (kc 2, 5632, .inr (.inl best)))]
set_option maxHeartbeats 4000000 in
set_option maxRecDepth 100000 in
theorem c_X3_totalFlying (l : Launch) (D : va_G) (kc : Nat → ClassId) (N : Nat) (a0 a1 a2 a3 : Nat) (planned : Int32) (plannedWind : Int32) (plannedReady : Int32) (gain : Nat → Int64) (best : Nat → Int64) (x1 : Int32) (x2 : Int32) (x3 : Int32) (r_ : Int64) (hf : f_X3_totalFlying N gain best x1 x2 x3 = some r_) : ML l yX3_totalFlying wsX3_totalFlying ({ frames := 0, cells := 0, slots := 0, locals := 0 }) D kc [.ref a0, .int x1, .int x2, .int x3] (w_X3_totalFlying kc a0 a1 a2 a3 planned plannedWind plannedReady gain best) (w_X3_totalFlying kc a0 a1 a2 a3 planned plannedWind plannedReady gain best) r_ := by
  refine gM_L (cc := cX3_totalFlying) (maxL := 4) (by decide) rfl (Nat.le_of_ble_eq_true rfl) ?_
  intro p e s m below meth c A ls Q hx hb hml hown hts hN hK hP hD hA hl kR
  have hS : va_S A s.heap s.heap [] := va_S.rf
  have hl : lv_has ls 4 [(0, .ref a0), (1, .int x1), (2, .int x2), (3, .int x3)] := hl
  have in_X3 : ∀ w ∈ u_ws RX3 TX3 6, w ∈ wsX3_totalFlying := by decide +kernel
  have lk_9 := hts (.fieldLink RX3 9 "BalloonMail$Planner" "gain" "[J") (by decide +kernel)
  have lk_15 := hts (.fieldLink RX3 15 "BalloonMail$Planner" "best" "[J") (by decide +kernel)
  unfold f_X3_totalFlying at hf
  refine lv_aload_n hx hb dX3_totalFlying_0 rfl (lv_at hl 0 rfl) ?_
  refine va_get (D := D) (ci := 3) (v := .ref a1) (C := RX3) (T := TX3) (N := 6) hx hb hts in_X3 hown hK hP 0 rfl rfl 0 (by decide) lk_9 (fun _ h9 => h9) rfl dX3_totalFlying_1 ?_
  refine lv_iload_n hx hb dX3_totalFlying_4 rfl (lv_at hl 1 rfl) ?_
  refine lv_bipush (v := 9) hx hb dX3_totalFlying_5 (by decide) ?_
  refine lv_imul hx hb dX3_totalFlying_7 ?_
  refine lv_iload_n hx hb dX3_totalFlying_8 rfl (lv_at hl 2 rfl) ?_
  refine lv_iadd hx hb dX3_totalFlying_9 ?_
  obtain ⟨hi, hf⟩ := gIx_some hf
  refine va_lald hx hb hK hP 1 2 rfl rfl hi dX3_totalFlying_10 ?_
  refine lv_aload_n hx hb dX3_totalFlying_11 rfl (lv_at hl 0 rfl) ?_
  refine va_get (D := D) (ci := 3) (v := .ref a2) (C := RX3) (T := TX3) (N := 6) hx hb hts in_X3 hown hK hP 0 rfl rfl 1 (by decide) lk_15 (fun _ h9 => h9) rfl dX3_totalFlying_12 ?_
  refine lv_iload_n hx hb dX3_totalFlying_15 rfl (lv_at hl 1 rfl) ?_
  refine lv_iconst (v := 1) hx hb dX3_totalFlying_16 (by decide) ?_
  refine lv_iadd hx hb dX3_totalFlying_17 ?_
  refine lv_sipush (v := 512) hx hb dX3_totalFlying_18 (by decide) ?_
  refine lv_imul hx hb dX3_totalFlying_21 ?_
  refine lv_iload_n hx hb dX3_totalFlying_22 rfl (lv_at hl 3 rfl) ?_
  refine lv_iconst (v := 1) hx hb dX3_totalFlying_23 (by decide) ?_
  refine lv_iload_n hx hb dX3_totalFlying_24 rfl (lv_at hl 2 rfl) ?_
  refine lv_ishl hx hb dX3_totalFlying_25 ?_
  refine lv_ior hx hb dX3_totalFlying_26 ?_
  refine lv_iadd hx hb dX3_totalFlying_27 ?_
  obtain ⟨hi, hf⟩ := gIx_some hf
  refine va_lald hx hb hK hP 2 2 rfl rfl hi dX3_totalFlying_28 ?_
  refine lv_ladd hx hb dX3_totalFlying_29 ?_
  cases hf
  exact kR _ _ _ _ hP hD hS dX3_totalFlying_30
abbrev w_X3_bestFrom (kc : Nat → ClassId) (a0 a1 a2 a3 : Nat) (planned : Int32) (plannedWind : Int32) (plannedReady : Int32) (best : Nat → Int64) (gain : Nat → Int64) : va_W := [(a0, .inr (3, [.ref a1, .ref a2, .ref a3, .int planned, .int plannedWind, .int plannedReady])), (a2, .inl (kc 2, 5632, .inr (.inl best))), (a1, .inl (kc 2, 90, .inr (.inl gain)))]
set_option maxHeartbeats 4000000 in
set_option maxRecDepth 100000 in
theorem c_X3_bestFrom (l : Launch) (D : va_G) (kc : Nat → ClassId) (N : Nat) (a0 a1 a2 a3 : Nat) (planned : Int32) (plannedWind : Int32) (plannedReady : Int32) (best : Nat → Int64) (gain : Nat → Int64) (x1 : Int32) (x2 : Int32) (x3 : Int32) (r_ : Int64) (hf : f_X3_bestFrom N best gain x1 x2 x3 = some r_) : ML l yX3_bestFrom wsX3_bestFrom ({ frames := 1, cells := 0, slots := 0, locals := 23 }) D kc [.ref a0, .int x1, .int x2, .int x3] (w_X3_bestFrom kc a0 a1 a2 a3 planned plannedWind plannedReady best gain) (w_X3_bestFrom kc a0 a1 a2 a3 planned plannedWind plannedReady best gain) r_ := by
  refine gM_L (cc := cX3_bestFrom) (maxL := 7) (by decide) rfl (Nat.le_of_ble_eq_true rfl) ?_
  intro p e s m below meth c A ls Q hx hb hml hown hts hN hK hP hD hA hl kR
  have hS : va_S A s.heap s.heap [] := va_S.rf
  have hl : lv_has ls 7 [(0, .ref a0), (1, .int x1), (2, .int x2), (3, .int x3)] := hl
  have in_X3 : ∀ w ∈ u_ws RX3 TX3 6, w ∈ wsX3_bestFrom := by decide +kernel
  have lk_15 := hts (.fieldLink RX3 15 "BalloonMail$Planner" "best" "[J") (by decide +kernel)
  unfold f_X3_bestFrom at hf
  refine lv_aload_n hx hb dX3_bestFrom_0 rfl (lv_at hl 0 rfl) ?_
  refine va_get (D := D) (ci := 3) (v := .ref a2) (C := RX3) (T := TX3) (N := 6) hx hb hts in_X3 hown hK hP 0 rfl rfl 1 (by decide) lk_15 (fun _ h9 => h9) rfl dX3_bestFrom_1 ?_
  refine lv_iload_n hx hb dX3_bestFrom_4 rfl (lv_at hl 1 rfl) ?_
  refine lv_iconst (v := 1) hx hb dX3_bestFrom_5 (by decide) ?_
  refine lv_iadd hx hb dX3_bestFrom_6 ?_
  refine lv_sipush (v := 512) hx hb dX3_bestFrom_7 (by decide) ?_
  refine lv_imul hx hb dX3_bestFrom_10 ?_
  refine lv_iload_n hx hb dX3_bestFrom_11 rfl (lv_at hl 2 rfl) ?_
  refine lv_iadd hx hb dX3_bestFrom_12 ?_
  obtain ⟨hi, hf⟩ := gIx_some hf
  refine va_lald hx hb hK hP 1 2 rfl rfl hi dX3_bestFrom_13 ?_
  refine lv_lstore (lv' := [(4, .long (best ((((x1 + 1) * 512) + x2) : Int32).toNatClampNeg)), (0, .ref a0), (1, .int x1), (2, .int x2), (3, .int x3)]) hx hb dX3_bestFrom_14 hl (by decide) rfl (fun ls hl => ?_)
  refine lv_iload_n hx hb dX3_bestFrom_16 rfl (lv_at hl 4 rfl) ?_
  refine lv_if_ne (tgt := 23) hx hb dX3_bestFrom_17 (by decide) (fun hc => ?_) (fun hc => ?_)
  · have hf := o_f hc hf
    refine lv_iconst (v := 0) hx hb dX3_bestFrom_23 (by decide) ?_
    refine lv_istore (lv' := [(6, .int 0), (4, .long (best ((((x1 + 1) * 512) + x2) : Int32).toNatClampNeg)), (0, .ref a0), (1, .int x1), (2, .int x2), (3, .int x3)]) hx hb dX3_bestFrom_24 hl (by decide) rfl (fun ls hl => ?_)
    have L26 : ∀ (n : Nat) (y6_26 : Int32) (y4_26 : Int64) (y6_26o : Int32) (y4_26o : Int64), f_X3_bestFrom_26 N best gain x1 x2 n y6_26 y4_26 = some (y6_26o, y4_26o) → (∀ (H : Heap) (locs : List Loc) (ls : Array Slot), va_P D vwCl (w_X3_bestFrom kc a0 a1 a2 a3 planned plannedWind plannedReady best gain) H → va_D A (w_X3_bestFrom kc a0 a1 a2 a3 planned plannedWind plannedReady best gain) → va_S A s.heap H locs → lv_has ls 7 [(0, .ref a0), (1, .int x1), (2, .int x2), (3, .int x3), (4, .long y4_26o), (6, .int y6_26o)] → W p l e ({ frames := 1, cells := 0, slots := 0, locals := 23 }) s m (([.ref a0, .int x1, .int x2, .int x3] : List Value).toArray) below meth c H locs 0 0 Q (F0 m 63 ls [])) → ∀ (H : Heap) (locs : List Loc) (ls : Array Slot), va_P D vwCl (w_X3_bestFrom kc a0 a1 a2 a3 planned plannedWind plannedReady best gain) H → va_D A (w_X3_bestFrom kc a0 a1 a2 a3 planned plannedWind plannedReady best gain) → va_S A s.heap H locs → lv_has ls 7 [(0, .ref a0), (1, .int x1), (2, .int x2), (3, .int x3), (4, .long y4_26), (6, .int y6_26)] → W p l e ({ frames := 1, cells := 0, slots := 0, locals := 23 }) s m (([.ref a0, .int x1, .int x2, .int x3] : List Value).toArray) below meth c H locs 0 0 Q (F0 m 26 ls []) := by
      intro n
      induction n with
      | zero => intro _ _ _ _ hf; rw [f_X3_bestFrom_26.eq_1] at hf; cases hf
      | succ n ih =>
        intro y6_26 y4_26 y6_26o y4_26o hf hk H locs ls hP hD hS hl
        rw [f_X3_bestFrom_26.eq_2] at hf
        refine lv_iload hx hb dX3_bestFrom_26 (lv_at hl 5 rfl) ?_
        refine lv_bipush (v := 9) hx hb dX3_bestFrom_28 (by decide) ?_
        refine lv_icmp_ge (tgt := 63) hx hb dX3_bestFrom_30 (by decide) (fun hc => ?_) (fun hc => ?_)
        · have hf := o_t hc hf
          cases hf
          exact hk _ _ _ hP hD hS (lv_sub hl [0, 1, 2, 3, 4, 5] rfl)
        · have hf := o_f hc hf
          refine lv_iload_n hx hb dX3_bestFrom_33 rfl (lv_at hl 2 rfl) ?_
          refine lv_iload hx hb dX3_bestFrom_34 (lv_at hl 5 rfl) ?_
          obtain ⟨r_1, hc, hf⟩ := ob1_some hf
          refine g_SZ (As := [.int x2, .int y6_26]) (rest := []) (ws' := (w_X3_bestFrom kc a0 a1 a2 a3 planned plannedWind plannedReady best gain)) ⟨hx, hb, hml, hown, hts⟩ hN hK hP hD hS hA (c_X3_isIn l D kc N x2 y6_26 r_1 hc) (va_cwS 2 hts gX3_bestFrom_X3_isIn rfl rfl rfl (by decide +kernel) ⟨Nat.le_of_ble_eq_true rfl, Nat.le_of_ble_eq_true rfl⟩) [] [0, 1, 2] [0, 1, 2] (by exact ⟨rfl, rfl, by decide, rfl⟩) rfl hl.1 rfl (Nat.le_of_ble_eq_true rfl) dX3_bestFrom_36 ⟨Nat.le_refl _, Nat.le_refl _⟩ (fun H locs hz hP hD hS => ?_)
          have hz_2 := hz
          refine lv_if_ne (tgt := 57) hx hb dX3_bestFrom_39 (by decide) (fun hc => ?_) (fun hc => ?_)
          · have hf := o_f hc hf
            refine lv_iinc (v := (y6_26 + 1)) (lv' := [(6, .int (y6_26 + 1)), (0, .ref a0), (1, .int x1), (2, .int x2), (3, .int x3), (4, .long y4_26)]) hx hb dX3_bestFrom_57 hl (k := 5) rfl (by rfl) (by decide) rfl (fun ls hl => ?_)
            refine lv_goto (tgt := 26) hx hb dX3_bestFrom_60 (by decide) ?_
            exact ih _ _ _ _ hf hk _ _ _ hP hD hS (lv_sub hl [1, 2, 3, 4, 5, 0] rfl)
          · have hf := o_t hc hf
            refine lv_lload hx hb dX3_bestFrom_42 (lv_at hl 4 rfl) ?_
            refine lv_aload_n hx hb dX3_bestFrom_44 rfl (lv_at hl 0 rfl) ?_
            refine lv_iload_n hx hb dX3_bestFrom_45 rfl (lv_at hl 1 rfl) ?_
            refine lv_iload hx hb dX3_bestFrom_46 (lv_at hl 5 rfl) ?_
            refine lv_iload_n hx hb dX3_bestFrom_48 rfl (lv_at hl 2 rfl) ?_
            obtain ⟨r_3, hc, hf⟩ := ob1_some hf
            refine g_VL (As := [.int x1, .int y6_26, .int x2]) (rest := [.long y4_26]) (ws' := (w_X3_bestFrom kc a0 a1 a2 a3 planned plannedWind plannedReady best gain)) ⟨hx, hb, hml, hown, hts⟩ hN hK hP hD hS hA (c_X3_totalFlying l D kc N a0 a1 a2 a3 planned plannedWind plannedReady gain best x1 y6_26 x2 r_3 hc) (cwV 3 hts gX3_bestFrom_X3_totalFlying rfl rfl rfl (by decide +kernel) ⟨Nat.le_of_ble_eq_true rfl, Nat.le_of_ble_eq_true rfl⟩) [0, 2, 1] [] [0, 2, 1] (by exact ⟨rfl, rfl, by decide, rfl⟩) 0 3 rfl rfl rfl rfl hl.1 rfl (Nat.le_of_ble_eq_true rfl) dX3_bestFrom_49 ⟨Nat.le_refl _, Nat.le_refl _⟩ (fun H locs hP hD hS => ?_)
            refine va_mmax_long hx hb (hml.trans hl.1.symm) hown (hts (.methodLink RX3 95 Lib.MathLoose.max_long.x) (by decide +kernel)) (hts (.static Lib.MathLoose.max_long.x) (by decide +kernel)) (hts (.initialized "java/lang/Math") (by decide +kernel)) (hts (.code Lib.MathLoose.max_long.x Lib.MathLoose.max_long.code 4 (some .long)) (by decide +kernel)) (Nat.le_of_ble_eq_true rfl) (Nat.le_of_ble_eq_true rfl) (Nat.le_refl _) (Nat.le_refl _) dX3_bestFrom_52 ?_
            refine lv_lstore (lv' := [(4, .long (if r_3 < y4_26 then y4_26 else r_3)), (0, .ref a0), (1, .int x1), (2, .int x2), (3, .int x3), (6, .int y6_26)]) hx hb dX3_bestFrom_55 hl (by decide) rfl (fun ls hl => ?_)
            refine lv_iinc (v := (y6_26 + 1)) (lv' := [(6, .int (y6_26 + 1)), (4, .long (if r_3 < y4_26 then y4_26 else r_3)), (0, .ref a0), (1, .int x1), (2, .int x2), (3, .int x3)]) hx hb dX3_bestFrom_57 hl (k := 5) rfl (by rfl) (by decide) rfl (fun ls hl => ?_)
            refine lv_goto (tgt := 26) hx hb dX3_bestFrom_60 (by decide) ?_
            exact ih _ _ _ _ hf hk _ _ _ hP hD hS (lv_sub hl [2, 3, 4, 5, 1, 0] rfl)
    obtain ⟨y6_26o, y4_26o, hc, hf⟩ := ob2_some hf
    refine L26 N _ _ _ _ hc (fun H locs ls hP hD hS hl => ?_) _ _ _ hP hD hS (lv_sub hl [2, 3, 4, 5, 1, 0] rfl)
    refine lv_lload hx hb dX3_bestFrom_63 (lv_at hl 4 rfl) ?_
    cases hf
    exact kR _ _ _ _ hP hD hS dX3_bestFrom_65
  · have hf := o_t hc hf
    refine lv_lload hx hb dX3_bestFrom_20 (lv_at hl 0 rfl) ?_
    cases hf
    exact kR _ _ _ _ hP hD hS dX3_bestFrom_22
abbrev w_X3_fillBest (kc : Nat → ClassId) (a0 a1 a2 a3 : Nat) (planned : Int32) (plannedWind : Int32) (plannedReady : Int32) (best : Nat → Int64) (gain : Nat → Int64) : va_W := [(a0, .inr (3, [.ref a1, .ref a2, .ref a3, .int planned, .int plannedWind, .int plannedReady])), (a2, .inl (kc 2, 5632, .inr (.inl best))), (a1, .inl (kc 2, 90, .inr (.inl gain)))]
set_option maxHeartbeats 4000000 in
set_option maxRecDepth 100000 in
theorem c_X3_fillBest (l : Launch) (D : va_G) (kc : Nat → ClassId) (N : Nat) (a0 a1 a2 a3 : Nat) (planned : Int32) (plannedWind : Int32) (plannedReady : Int32) (best : Nat → Int64) (gain : Nat → Int64) (x1 : Int32) (x2 : Int32) (best' : Nat → Int64) (hf : f_X3_fillBest N best gain x1 x2 = some best') : MV l yX3_fillBest wsX3_fillBest ({ frames := 2, cells := 0, slots := 0, locals := 49 }) D kc [.ref a0, .int x1, .int x2] (w_X3_fillBest kc a0 a1 a2 a3 planned plannedWind plannedReady best gain) (w_X3_fillBest kc a0 a1 a2 a3 planned plannedWind plannedReady best' gain) := by
  refine gM_V (cc := cX3_fillBest) (maxL := 5) (by decide) rfl (Nat.le_of_ble_eq_true rfl) ?_
  intro p e s m below meth c A ls Q hx hb hml hown hts hN hK hP hD hA hl kR
  have hS : va_S A s.heap s.heap [] := va_S.rf
  have hl : lv_has ls 5 [(0, .ref a0), (1, .int x1), (2, .int x2)] := hl
  have in_X3 : ∀ w ∈ u_ws RX3 TX3 6, w ∈ wsX3_fillBest := by decide +kernel
  have lk_15 := hts (.fieldLink RX3 15 "BalloonMail$Planner" "best" "[J") (by decide +kernel)
  unfold f_X3_fillBest at hf
  refine lv_iconst (v := 0) hx hb dX3_fillBest_0 (by decide) ?_
  refine lv_istore_n (lv' := [(3, .int 0), (0, .ref a0), (1, .int x1), (2, .int x2)]) hx hb dX3_fillBest_1 rfl hl (by decide) rfl (fun ls hl => ?_)
  have L2 : ∀ (n : Nat) (y3_2 : Int32) (best_2 : Nat → Int64) (y3_2o : Int32) (best_2o : Nat → Int64), f_X3_fillBest_2 N x1 n y3_2 best_2 = some (y3_2o, best_2o) → (∀ (H : Heap) (locs : List Loc) (ls : Array Slot), va_P D vwCl (w_X3_fillBest kc a0 a1 a2 a3 planned plannedWind plannedReady best_2o gain) H → va_D A (w_X3_fillBest kc a0 a1 a2 a3 planned plannedWind plannedReady best_2o gain) → va_S A s.heap H locs → lv_has ls 5 [(0, .ref a0), (1, .int x1), (2, .int x2), (3, .int y3_2o)] → W p l e ({ frames := 2, cells := 0, slots := 0, locals := 49 }) s m (([.ref a0, .int x1, .int x2] : List Value).toArray) below meth c H locs 0 0 Q (F0 m 28 ls [])) → ∀ (H : Heap) (locs : List Loc) (ls : Array Slot), va_P D vwCl (w_X3_fillBest kc a0 a1 a2 a3 planned plannedWind plannedReady best_2 gain) H → va_D A (w_X3_fillBest kc a0 a1 a2 a3 planned plannedWind plannedReady best_2 gain) → va_S A s.heap H locs → lv_has ls 5 [(0, .ref a0), (1, .int x1), (2, .int x2), (3, .int y3_2)] → W p l e ({ frames := 2, cells := 0, slots := 0, locals := 49 }) s m (([.ref a0, .int x1, .int x2] : List Value).toArray) below meth c H locs 0 0 Q (F0 m 2 ls []) := by
    intro n
    induction n with
    | zero => intro _ _ _ _ hf; rw [f_X3_fillBest_2.eq_1] at hf; cases hf
    | succ n ih =>
      intro y3_2 best_2 y3_2o best_2o hf hk H locs ls hP hD hS hl
      rw [f_X3_fillBest_2.eq_2] at hf
      refine lv_iload_n hx hb dX3_fillBest_2 rfl (lv_at hl 3 rfl) ?_
      refine lv_sipush (v := 512) hx hb dX3_fillBest_3 (by decide) ?_
      refine lv_icmp_ge (tgt := 28) hx hb dX3_fillBest_6 (by decide) (fun hc => ?_) (fun hc => ?_)
      · have hf := o_t hc hf
        cases hf
        exact hk _ _ _ hP hD hS (lv_sub hl [0, 1, 2, 3] rfl)
      · have hf := o_f hc hf
        refine lv_aload_n hx hb dX3_fillBest_9 rfl (lv_at hl 0 rfl) ?_
        refine va_get (D := D) (ci := 3) (v := .ref a2) (C := RX3) (T := TX3) (N := 6) hx hb hts in_X3 hown hK hP 0 rfl rfl 1 (by decide) lk_15 (fun _ h9 => h9) rfl dX3_fillBest_10 ?_
        refine lv_iload_n hx hb dX3_fillBest_13 rfl (lv_at hl 1 rfl) ?_
        refine lv_sipush (v := 512) hx hb dX3_fillBest_14 (by decide) ?_
        refine lv_imul hx hb dX3_fillBest_17 ?_
        refine lv_iload_n hx hb dX3_fillBest_18 rfl (lv_at hl 3 rfl) ?_
        refine lv_iadd hx hb dX3_fillBest_19 ?_
        refine lv_lconst (v := 0) hx hb dX3_fillBest_20 (by decide) ?_
        obtain ⟨hi, hf⟩ := gIx_some hf
        refine va_last hx hb hK hP hD hS 1 2 rfl rfl hi dX3_fillBest_21 (fun H locs hP hD hS => ?_)
        have hP : va_P D vwCl (w_X3_fillBest kc a0 a1 a2 a3 planned plannedWind plannedReady (vp_updL best_2 (((x1 * 512) + y3_2) : Int32).toNatClampNeg 0) gain) H := hP
        have hD : va_D A (w_X3_fillBest kc a0 a1 a2 a3 planned plannedWind plannedReady (vp_updL best_2 (((x1 * 512) + y3_2) : Int32).toNatClampNeg 0) gain) := hD
        refine lv_iinc (v := (y3_2 + 1)) (lv' := [(3, .int (y3_2 + 1)), (0, .ref a0), (1, .int x1), (2, .int x2)]) hx hb dX3_fillBest_22 hl (k := 3) rfl (by rfl) (by decide) rfl (fun ls hl => ?_)
        refine lv_goto (tgt := 2) hx hb dX3_fillBest_25 (by decide) ?_
        exact ih _ _ _ _ hf hk _ _ _ hP hD hS (lv_sub hl [1, 2, 3, 0] rfl)
  obtain ⟨y3_2o, best_2o, hc, hf⟩ := ob2_some hf
  refine L2 N _ _ _ _ hc (fun H locs ls hP hD hS hl => ?_) _ _ _ hP hD hS (lv_sub hl [1, 2, 3, 0] rfl)
  refine lv_iload_n hx hb dX3_fillBest_28 rfl (lv_at hl 1 rfl) ?_
  refine lv_iconst (v := 1) hx hb dX3_fillBest_29 (by decide) ?_
  refine lv_isub hx hb dX3_fillBest_30 ?_
  refine lv_istore_n (lv' := [(3, .int (x1 - 1)), (0, .ref a0), (1, .int x1), (2, .int x2)]) hx hb dX3_fillBest_31 rfl hl (by decide) rfl (fun ls hl => ?_)
  have L32 : ∀ (n : Nat) (y3_32 : Int32) (best_32 : Nat → Int64) (y3_32o : Int32) (best_32o : Nat → Int64), f_X3_fillBest_32 N gain x2 n y3_32 best_32 = some (y3_32o, best_32o) → (∀ (H : Heap) (locs : List Loc) (ls : Array Slot), va_P D vwCl (w_X3_fillBest kc a0 a1 a2 a3 planned plannedWind plannedReady best_32o gain) H → va_D A (w_X3_fillBest kc a0 a1 a2 a3 planned plannedWind plannedReady best_32o gain) → va_S A s.heap H locs → lv_has ls 5 [(0, .ref a0), (1, .int x1), (2, .int x2), (3, .int y3_32o)] → W p l e ({ frames := 2, cells := 0, slots := 0, locals := 49 }) s m (([.ref a0, .int x1, .int x2] : List Value).toArray) below meth c H locs 0 0 Q (F0 m 93 ls [])) → ∀ (H : Heap) (locs : List Loc) (ls : Array Slot), va_P D vwCl (w_X3_fillBest kc a0 a1 a2 a3 planned plannedWind plannedReady best_32 gain) H → va_D A (w_X3_fillBest kc a0 a1 a2 a3 planned plannedWind plannedReady best_32 gain) → va_S A s.heap H locs → lv_has ls 5 [(0, .ref a0), (1, .int x1), (2, .int x2), (3, .int y3_32)] → W p l e ({ frames := 2, cells := 0, slots := 0, locals := 49 }) s m (([.ref a0, .int x1, .int x2] : List Value).toArray) below meth c H locs 0 0 Q (F0 m 32 ls []) := by
    intro n
    induction n with
    | zero => intro _ _ _ _ hf; rw [f_X3_fillBest_32.eq_1] at hf; cases hf
    | succ n ih =>
      intro y3_32 best_32 y3_32o best_32o hf hk H locs ls hP hD hS hl
      rw [f_X3_fillBest_32.eq_2] at hf
      refine lv_iload_n hx hb dX3_fillBest_32 rfl (lv_at hl 3 rfl) ?_
      refine lv_if_lt (tgt := 93) hx hb dX3_fillBest_33 (by decide) (fun hc => ?_) (fun hc => ?_)
      · have hf := o_t hc hf
        cases hf
        exact hk _ _ _ hP hD hS (lv_sub hl [0, 1, 2, 3] rfl)
      · have hf := o_f hc hf
        refine lv_iconst (v := 0) hx hb dX3_fillBest_36 (by decide) ?_
        refine lv_istore (lv' := [(4, .int 0), (0, .ref a0), (1, .int x1), (2, .int x2), (3, .int y3_32)]) hx hb dX3_fillBest_37 hl (by decide) rfl (fun ls hl => ?_)
        have L39 : ∀ (n : Nat) (y4_39 : Int32) (best_39 : Nat → Int64) (y4_39o : Int32) (best_39o : Nat → Int64), f_X3_fillBest_39 N gain x2 y3_32 n y4_39 best_39 = some (y4_39o, best_39o) → (∀ (H : Heap) (locs : List Loc) (ls : Array Slot), va_P D vwCl (w_X3_fillBest kc a0 a1 a2 a3 planned plannedWind plannedReady best_39o gain) H → va_D A (w_X3_fillBest kc a0 a1 a2 a3 planned plannedWind plannedReady best_39o gain) → va_S A s.heap H locs → lv_has ls 5 [(0, .ref a0), (1, .int x1), (2, .int x2), (3, .int y3_32), (4, .int y4_39o)] → W p l e ({ frames := 2, cells := 0, slots := 0, locals := 49 }) s m (([.ref a0, .int x1, .int x2] : List Value).toArray) below meth c H locs 0 0 Q (F0 m 87 ls [])) → ∀ (H : Heap) (locs : List Loc) (ls : Array Slot), va_P D vwCl (w_X3_fillBest kc a0 a1 a2 a3 planned plannedWind plannedReady best_39 gain) H → va_D A (w_X3_fillBest kc a0 a1 a2 a3 planned plannedWind plannedReady best_39 gain) → va_S A s.heap H locs → lv_has ls 5 [(0, .ref a0), (1, .int x1), (2, .int x2), (3, .int y3_32), (4, .int y4_39)] → W p l e ({ frames := 2, cells := 0, slots := 0, locals := 49 }) s m (([.ref a0, .int x1, .int x2] : List Value).toArray) below meth c H locs 0 0 Q (F0 m 39 ls []) := by
          intro n
          induction n with
          | zero => intro _ _ _ _ hf; rw [f_X3_fillBest_39.eq_1] at hf; cases hf
          | succ n ih =>
            intro y4_39 best_39 y4_39o best_39o hf hk H locs ls hP hD hS hl
            rw [f_X3_fillBest_39.eq_2] at hf
            refine lv_iload hx hb dX3_fillBest_39 (lv_at hl 4 rfl) ?_
            refine lv_sipush (v := 512) hx hb dX3_fillBest_41 (by decide) ?_
            refine lv_icmp_ge (tgt := 87) hx hb dX3_fillBest_44 (by decide) (fun hc => ?_) (fun hc => ?_)
            · have hf := o_t hc hf
              cases hf
              exact hk _ _ _ hP hD hS (lv_sub hl [0, 1, 2, 3, 4] rfl)
            · have hf := o_f hc hf
              refine lv_iload hx hb dX3_fillBest_47 (lv_at hl 4 rfl) ?_
              obtain ⟨r_1, hc, hf⟩ := ob1_some hf
              refine g_SI (As := [.int y4_39]) (rest := []) (ws' := (w_X3_fillBest kc a0 a1 a2 a3 planned plannedWind plannedReady best_39 gain)) ⟨hx, hb, hml, hown, hts⟩ hN hK hP hD hS hA (c_J6_bitCount_0f7a4 l D kc N y4_39 r_1 hc) (va_cwS 1 hts gX3_fillBest_J6_bitCount_0f7a4 rfl rfl rfl (by decide +kernel) ⟨Nat.le_of_ble_eq_true rfl, Nat.le_of_ble_eq_true rfl⟩) [] [0, 1, 2] [0, 1, 2] (by exact ⟨rfl, rfl, by decide, rfl⟩) rfl hl.1 rfl (Nat.le_of_ble_eq_true rfl) dX3_fillBest_49 ⟨Nat.le_refl _, Nat.le_refl _⟩ (fun H locs hP hD hS => ?_)
              refine lv_iload_n hx hb dX3_fillBest_52 rfl (lv_at hl 3 rfl) ?_
              refine lv_icmp_gt (tgt := 81) hx hb dX3_fillBest_53 (by decide) (fun hc => ?_) (fun hc => ?_)
              · have hf := o_t hc hf
                refine lv_iinc (v := (y4_39 + 1)) (lv' := [(4, .int (y4_39 + 1)), (0, .ref a0), (1, .int x1), (2, .int x2), (3, .int y3_32)]) hx hb dX3_fillBest_81 hl (k := 4) rfl (by rfl) (by decide) rfl (fun ls hl => ?_)
                refine lv_goto (tgt := 39) hx hb dX3_fillBest_84 (by decide) ?_
                exact ih _ _ _ _ hf hk _ _ _ hP hD hS (lv_sub hl [1, 2, 3, 4, 0] rfl)
              · have hf := o_f hc hf
                refine lv_aload_n hx hb dX3_fillBest_56 rfl (lv_at hl 0 rfl) ?_
                refine va_get (D := D) (ci := 3) (v := .ref a2) (C := RX3) (T := TX3) (N := 6) hx hb hts in_X3 hown hK hP 0 rfl rfl 1 (by decide) lk_15 (fun _ h9 => h9) rfl dX3_fillBest_57 ?_
                refine lv_iload_n hx hb dX3_fillBest_60 rfl (lv_at hl 3 rfl) ?_
                refine lv_sipush (v := 512) hx hb dX3_fillBest_61 (by decide) ?_
                refine lv_imul hx hb dX3_fillBest_64 ?_
                refine lv_iload hx hb dX3_fillBest_65 (lv_at hl 4 rfl) ?_
                refine lv_iadd hx hb dX3_fillBest_67 ?_
                refine lv_aload_n hx hb dX3_fillBest_68 rfl (lv_at hl 0 rfl) ?_
                refine lv_iload_n hx hb dX3_fillBest_69 rfl (lv_at hl 3 rfl) ?_
                refine lv_iload hx hb dX3_fillBest_70 (lv_at hl 4 rfl) ?_
                refine lv_iload_n hx hb dX3_fillBest_72 rfl (lv_at hl 2 rfl) ?_
                refine lv_iload_n hx hb dX3_fillBest_73 rfl (lv_at hl 3 rfl) ?_
                obtain ⟨r_2, hc, hf⟩ := ob1_some hf
                refine g_SZ (As := [.int x2, .int y3_32]) (rest := [.int y4_39, .int y3_32, .ref a0, .int ((y3_32 * 512) + y4_39), .ref a2]) (ws' := (w_X3_fillBest kc a0 a1 a2 a3 planned plannedWind plannedReady best_39 gain)) ⟨hx, hb, hml, hown, hts⟩ hN hK hP hD hS hA (c_X3_isIn l D kc N x2 y3_32 r_2 hc) (va_cwS 2 hts gX3_fillBest_X3_isIn rfl rfl rfl (by decide +kernel) ⟨Nat.le_of_ble_eq_true rfl, Nat.le_of_ble_eq_true rfl⟩) [] [0, 1, 2] [0, 1, 2] (by exact ⟨rfl, rfl, by decide, rfl⟩) rfl hl.1 rfl (Nat.le_of_ble_eq_true rfl) dX3_fillBest_74 ⟨Nat.le_refl _, Nat.le_refl _⟩ (fun H locs hz hP hD hS => ?_)
                have hz_3 := hz
                obtain ⟨r_4, hc, hf⟩ := ob1_some hf
                refine g_VL (As := [.int y3_32, .int y4_39, .int r_2]) (rest := [.int ((y3_32 * 512) + y4_39), .ref a2]) (ws' := (w_X3_fillBest kc a0 a1 a2 a3 planned plannedWind plannedReady best_39 gain)) ⟨hx, hb, hml, hown, hts⟩ hN hK hP hD hS hA (c_X3_bestFrom l D kc N a0 a1 a2 a3 planned plannedWind plannedReady best_39 gain y3_32 y4_39 r_2 r_4 hc) (cwV 3 hts gX3_fillBest_X3_bestFrom rfl rfl rfl (by decide +kernel) ⟨Nat.le_of_ble_eq_true rfl, Nat.le_of_ble_eq_true rfl⟩) [0, 1, 2] [] [0, 1, 2] (by exact ⟨rfl, rfl, by decide, rfl⟩) 0 3 rfl rfl rfl rfl hl.1 rfl (Nat.le_of_ble_eq_true rfl) dX3_fillBest_77 ⟨Nat.le_refl _, Nat.le_refl _⟩ (fun H locs hP hD hS => ?_)
                obtain ⟨hi, hf⟩ := gIx_some hf
                refine va_last hx hb hK hP hD hS 1 2 rfl rfl hi dX3_fillBest_80 (fun H locs hP hD hS => ?_)
                have hP : va_P D vwCl (w_X3_fillBest kc a0 a1 a2 a3 planned plannedWind plannedReady (vp_updL best_39 (((y3_32 * 512) + y4_39) : Int32).toNatClampNeg r_4) gain) H := hP
                have hD : va_D A (w_X3_fillBest kc a0 a1 a2 a3 planned plannedWind plannedReady (vp_updL best_39 (((y3_32 * 512) + y4_39) : Int32).toNatClampNeg r_4) gain) := hD
                refine lv_iinc (v := (y4_39 + 1)) (lv' := [(4, .int (y4_39 + 1)), (0, .ref a0), (1, .int x1), (2, .int x2), (3, .int y3_32)]) hx hb dX3_fillBest_81 hl (k := 4) rfl (by rfl) (by decide) rfl (fun ls hl => ?_)
                refine lv_goto (tgt := 39) hx hb dX3_fillBest_84 (by decide) ?_
                exact ih _ _ _ _ hf hk _ _ _ hP hD hS (lv_sub hl [1, 2, 3, 4, 0] rfl)
        obtain ⟨y4_39o, best_39o, hc, hf⟩ := ob2_some hf
        refine L39 N _ _ _ _ hc (fun H locs ls hP hD hS hl => ?_) _ _ _ hP hD hS (lv_sub hl [1, 2, 3, 4, 0] rfl)
        refine lv_iinc (v := (y3_32 + (-1))) (lv' := [(3, .int (y3_32 + (-1))), (0, .ref a0), (1, .int x1), (2, .int x2), (4, .int y4_39o)]) hx hb dX3_fillBest_87 hl (k := 3) rfl (by rfl) (by decide) rfl (fun ls hl => ?_)
        refine lv_goto (tgt := 32) hx hb dX3_fillBest_90 (by decide) ?_
        exact ih _ _ _ _ hf hk _ _ _ hP hD hS (lv_sub hl [1, 2, 3, 0] rfl)
  obtain ⟨y3_32o, best_32o, hc, hf⟩ := ob2_some hf
  refine L32 N _ _ _ _ hc (fun H locs ls hP hD hS hl => ?_) _ _ _ hP hD hS (lv_sub hl [1, 2, 3, 0] rfl)
  cases hf
  exact kR _ _ _ _ hP hD hS dX3_fillBest_93
abbrev w_X3_firstBestDay (kc : Nat → ClassId) (a0 a1 a2 a3 : Nat) (planned : Int32) (plannedWind : Int32) (plannedReady : Int32) (best : Nat → Int64) (gain : Nat → Int64) : va_W := [(a0, .inr (3, [.ref a1, .ref a2, .ref a3, .int planned, .int plannedWind, .int plannedReady])), (a2, .inl (kc 2, 5632, .inr (.inl best))), (a1, .inl (kc 2, 90, .inr (.inl gain)))]
set_option maxHeartbeats 4000000 in
set_option maxRecDepth 100000 in
theorem c_X3_firstBestDay (l : Launch) (D : va_G) (kc : Nat → ClassId) (N : Nat) (a0 a1 a2 a3 : Nat) (planned : Int32) (plannedWind : Int32) (plannedReady : Int32) (best : Nat → Int64) (gain : Nat → Int64) (x1 : Int32) (x2 : Int32) (r_ : Int32) (hf : f_X3_firstBestDay N best gain x1 x2 = some r_) : MI l yX3_firstBestDay wsX3_firstBestDay ({ frames := 1, cells := 0, slots := 0, locals := 23 }) D kc [.ref a0, .int x1, .int x2] (w_X3_firstBestDay kc a0 a1 a2 a3 planned plannedWind plannedReady best gain) (w_X3_firstBestDay kc a0 a1 a2 a3 planned plannedWind plannedReady best gain) r_ := by
  refine gM_I (cc := cX3_firstBestDay) (maxL := 6) (by decide) rfl (Nat.le_of_ble_eq_true rfl) ?_
  intro p e s m below meth c A ls Q hx hb hml hown hts hN hK hP hD hA hl kR
  have hS : va_S A s.heap s.heap [] := va_S.rf
  have hl : lv_has ls 6 [(0, .ref a0), (1, .int x1), (2, .int x2)] := hl
  have in_X3 : ∀ w ∈ u_ws RX3 TX3 6, w ∈ wsX3_firstBestDay := by decide +kernel
  have lk_15 := hts (.fieldLink RX3 15 "BalloonMail$Planner" "best" "[J") (by decide +kernel)
  unfold f_X3_firstBestDay at hf
  refine lv_aload_n hx hb dX3_firstBestDay_0 rfl (lv_at hl 0 rfl) ?_
  refine va_get (D := D) (ci := 3) (v := .ref a2) (C := RX3) (T := TX3) (N := 6) hx hb hts in_X3 hown hK hP 0 rfl rfl 1 (by decide) lk_15 (fun _ h9 => h9) rfl dX3_firstBestDay_1 ?_
  refine lv_iload_n hx hb dX3_firstBestDay_4 rfl (lv_at hl 1 rfl) ?_
  refine lv_sipush (v := 512) hx hb dX3_firstBestDay_5 (by decide) ?_
  refine lv_imul hx hb dX3_firstBestDay_8 ?_
  refine lv_iload_n hx hb dX3_firstBestDay_9 rfl (lv_at hl 2 rfl) ?_
  refine lv_iadd hx hb dX3_firstBestDay_10 ?_
  obtain ⟨hi, hf⟩ := gIx_some hf
  refine va_lald hx hb hK hP 1 2 rfl rfl hi dX3_firstBestDay_11 ?_
  refine lv_lstore_n (lv' := [(3, .long (best (((x1 * 512) + x2) : Int32).toNatClampNeg)), (0, .ref a0), (1, .int x1), (2, .int x2)]) hx hb dX3_firstBestDay_12 rfl hl (by decide) rfl (fun ls hl => ?_)
  refine lv_iconst (v := 0) hx hb dX3_firstBestDay_13 (by decide) ?_
  refine lv_istore (lv' := [(5, .int 0), (3, .long (best (((x1 * 512) + x2) : Int32).toNatClampNeg)), (0, .ref a0), (1, .int x1), (2, .int x2)]) hx hb dX3_firstBestDay_14 hl (by decide) rfl (fun ls hl => ?_)
  have L16 : ∀ (z3_16 : Int64) (n : Nat) (y5_16 : Int32), f_X3_firstBestDay_16 N best gain x1 x2 z3_16 n y5_16 = some r_ → ∀ (H : Heap) (locs : List Loc) (ls : Array Slot), va_P D vwCl (w_X3_firstBestDay kc a0 a1 a2 a3 planned plannedWind plannedReady best gain) H → va_D A (w_X3_firstBestDay kc a0 a1 a2 a3 planned plannedWind plannedReady best gain) → va_S A s.heap H locs → lv_has ls 6 [(0, .ref a0), (1, .int x1), (2, .int x2), (3, .long z3_16), (5, .int y5_16)] → W p l e ({ frames := 1, cells := 0, slots := 0, locals := 23 }) s m (([.ref a0, .int x1, .int x2] : List Value).toArray) below meth c H locs 0 0 Q (F0 m 16 ls []) := by
    clear hf
    intro z3_16 n
    induction n with
    | zero => intro _ hf; rw [f_X3_firstBestDay_16.eq_1] at hf; cases hf
    | succ n ih =>
      intro y5_16 hf H locs ls hP hD hS hl
      rw [f_X3_firstBestDay_16.eq_2] at hf
      refine lv_iload hx hb dX3_firstBestDay_16 (lv_at hl 4 rfl) ?_
      refine lv_bipush (v := 9) hx hb dX3_firstBestDay_18 (by decide) ?_
      refine lv_icmp_ge (tgt := 54) hx hb dX3_firstBestDay_20 (by decide) (fun hc => ?_) (fun hc => ?_)
      · have hf := o_t hc hf
        refine lv_bipush (v := (-2)) hx hb dX3_firstBestDay_54 (by decide) ?_
        cases hf
        exact kR _ _ _ _ hP hD hS dX3_firstBestDay_56
      · have hf := o_f hc hf
        refine lv_iload_n hx hb dX3_firstBestDay_23 rfl (lv_at hl 2 rfl) ?_
        refine lv_iload hx hb dX3_firstBestDay_24 (lv_at hl 4 rfl) ?_
        obtain ⟨r_1, hc, hf⟩ := ob1_some hf
        refine g_SZ (As := [.int x2, .int y5_16]) (rest := []) (ws' := (w_X3_firstBestDay kc a0 a1 a2 a3 planned plannedWind plannedReady best gain)) ⟨hx, hb, hml, hown, hts⟩ hN hK hP hD hS hA (c_X3_isIn l D kc N x2 y5_16 r_1 hc) (va_cwS 2 hts gX3_firstBestDay_X3_isIn rfl rfl rfl (by decide +kernel) ⟨Nat.le_of_ble_eq_true rfl, Nat.le_of_ble_eq_true rfl⟩) [] [0, 1, 2] [0, 1, 2] (by exact ⟨rfl, rfl, by decide, rfl⟩) rfl hl.1 rfl (Nat.le_of_ble_eq_true rfl) dX3_firstBestDay_26 ⟨Nat.le_refl _, Nat.le_refl _⟩ (fun H locs hz hP hD hS => ?_)
        have hz_2 := hz
        refine lv_if_ne (tgt := 48) hx hb dX3_firstBestDay_29 (by decide) (fun hc => ?_) (fun hc => ?_)
        · have hf := o_f hc hf
          refine lv_iinc (v := (y5_16 + 1)) (lv' := [(5, .int (y5_16 + 1)), (0, .ref a0), (1, .int x1), (2, .int x2), (3, .long z3_16)]) hx hb dX3_firstBestDay_48 hl (k := 4) rfl (by rfl) (by decide) rfl (fun ls hl => ?_)
          refine lv_goto (tgt := 16) hx hb dX3_firstBestDay_51 (by decide) ?_
          exact ih _ hf _ _ _ hP hD hS (lv_sub hl [1, 2, 3, 4, 0] rfl)
        · have hf := o_t hc hf
          refine lv_aload_n hx hb dX3_firstBestDay_32 rfl (lv_at hl 0 rfl) ?_
          refine lv_iload_n hx hb dX3_firstBestDay_33 rfl (lv_at hl 1 rfl) ?_
          refine lv_iload hx hb dX3_firstBestDay_34 (lv_at hl 4 rfl) ?_
          refine lv_iload_n hx hb dX3_firstBestDay_36 rfl (lv_at hl 2 rfl) ?_
          obtain ⟨r_3, hc, hf⟩ := ob1_some hf
          refine g_VL (As := [.int x1, .int y5_16, .int x2]) (rest := []) (ws' := (w_X3_firstBestDay kc a0 a1 a2 a3 planned plannedWind plannedReady best gain)) ⟨hx, hb, hml, hown, hts⟩ hN hK hP hD hS hA (c_X3_totalFlying l D kc N a0 a1 a2 a3 planned plannedWind plannedReady gain best x1 y5_16 x2 r_3 hc) (cwV 3 hts gX3_firstBestDay_X3_totalFlying rfl rfl rfl (by decide +kernel) ⟨Nat.le_of_ble_eq_true rfl, Nat.le_of_ble_eq_true rfl⟩) [0, 2, 1] [] [0, 2, 1] (by exact ⟨rfl, rfl, by decide, rfl⟩) 0 3 rfl rfl rfl rfl hl.1 rfl (Nat.le_of_ble_eq_true rfl) dX3_firstBestDay_37 ⟨Nat.le_refl _, Nat.le_refl _⟩ (fun H locs hP hD hS => ?_)
          refine lv_lload_n hx hb dX3_firstBestDay_40 rfl (lv_at hl 3 rfl) ?_
          refine W.lcmp hx hb dX3_firstBestDay_41 ?_
          refine lv_if_ne (tgt := 48) hx hb dX3_firstBestDay_42 (by decide) (fun hc => ?_) (fun hc => ?_)
          · have hf := o_f hc hf
            refine lv_iinc (v := (y5_16 + 1)) (lv' := [(5, .int (y5_16 + 1)), (0, .ref a0), (1, .int x1), (2, .int x2), (3, .long z3_16)]) hx hb dX3_firstBestDay_48 hl (k := 4) rfl (by rfl) (by decide) rfl (fun ls hl => ?_)
            refine lv_goto (tgt := 16) hx hb dX3_firstBestDay_51 (by decide) ?_
            exact ih _ hf _ _ _ hP hD hS (lv_sub hl [1, 2, 3, 4, 0] rfl)
          · have hf := o_t hc hf
            refine lv_iload hx hb dX3_firstBestDay_45 (lv_at hl 4 rfl) ?_
            cases hf
            exact kR _ _ _ _ hP hD hS dX3_firstBestDay_47
  exact L16 (best (((x1 * 512) + x2) : Int32).toNatClampNeg) N _ hf _ _ _ hP hD hS (lv_sub hl [2, 3, 4, 1, 0] rfl)
abbrev w_X3_chooseDays (kc : Nat → ClassId) (a0 a1 a2 a3 : Nat) (planned : Int32) (plannedWind : Int32) (plannedReady : Int32) (best : Nat → Int64) (gain : Nat → Int64) (chosen : Nat → Int32) : va_W := [(a0, .inr (3, [.ref a1, .ref a2, .ref a3, .int planned, .int plannedWind, .int plannedReady])), (a2, .inl (kc 2, 5632, .inr (.inl best))), (a1, .inl (kc 2, 90, .inr (.inl gain))), (a3, .inl (kc 1, 10, .inl chosen))]
set_option maxHeartbeats 4000000 in
set_option maxRecDepth 100000 in
theorem c_X3_chooseDays (l : Launch) (D : va_G) (kc : Nat → ClassId) (N : Nat) (a0 a1 a2 a3 : Nat) (planned : Int32) (plannedWind : Int32) (plannedReady : Int32) (best : Nat → Int64) (gain : Nat → Int64) (chosen : Nat → Int32) (x1 : Int32) (x2 : Int32) (chosen' : Nat → Int32) (hf : f_X3_chooseDays N best gain chosen x1 x2 = some chosen') : MV l yX3_chooseDays wsX3_chooseDays ({ frames := 2, cells := 0, slots := 0, locals := 48 }) D kc [.ref a0, .int x1, .int x2] (w_X3_chooseDays kc a0 a1 a2 a3 planned plannedWind plannedReady best gain chosen) (w_X3_chooseDays kc a0 a1 a2 a3 planned plannedWind plannedReady best gain chosen') := by
  refine gM_V (cc := cX3_chooseDays) (maxL := 6) (by decide) rfl (Nat.le_of_ble_eq_true rfl) ?_
  intro p e s m below meth c A ls Q hx hb hml hown hts hN hK hP hD hA hl kR
  have hS : va_S A s.heap s.heap [] := va_S.rf
  have hl : lv_has ls 6 [(0, .ref a0), (1, .int x1), (2, .int x2)] := hl
  have in_X3 : ∀ w ∈ u_ws RX3 TX3 6, w ∈ wsX3_chooseDays := by decide +kernel
  have lk_18 := hts (.fieldLink RX3 18 "BalloonMail$Planner" "chosen" "[I") (by decide +kernel)
  unfold f_X3_chooseDays at hf
  refine lv_iconst (v := 0) hx hb dX3_chooseDays_0 (by decide) ?_
  refine lv_istore_n (lv' := [(3, .int 0), (0, .ref a0), (1, .int x1), (2, .int x2)]) hx hb dX3_chooseDays_1 rfl hl (by decide) rfl (fun ls hl => ?_)
  refine lv_iconst (v := 0) hx hb dX3_chooseDays_2 (by decide) ?_
  refine lv_istore (lv' := [(4, .int 0), (3, .int 0), (0, .ref a0), (1, .int x1), (2, .int x2)]) hx hb dX3_chooseDays_3 hl (by decide) rfl (fun ls hl => ?_)
  have L5 : ∀ (n : Nat) (y4_5 : Int32) (y3_5 : Int32) (chosen_5 : Nat → Int32) (y4_5o : Int32) (y3_5o : Int32) (chosen_5o : Nat → Int32), f_X3_chooseDays_5 N best gain x1 x2 n y4_5 y3_5 chosen_5 = some (y4_5o, y3_5o, chosen_5o) → (∀ (H : Heap) (locs : List Loc) (ls : Array Slot), va_P D vwCl (w_X3_chooseDays kc a0 a1 a2 a3 planned plannedWind plannedReady best gain chosen_5o) H → va_D A (w_X3_chooseDays kc a0 a1 a2 a3 planned plannedWind plannedReady best gain chosen_5o) → va_S A s.heap H locs → lv_has ls 6 [(0, .ref a0), (1, .int x1), (2, .int x2), (3, .int y3_5o), (4, .int y4_5o)] → W p l e ({ frames := 2, cells := 0, slots := 0, locals := 48 }) s m (([.ref a0, .int x1, .int x2] : List Value).toArray) below meth c H locs 0 0 Q (F0 m 63 ls [])) → ∀ (H : Heap) (locs : List Loc) (ls : Array Slot), va_P D vwCl (w_X3_chooseDays kc a0 a1 a2 a3 planned plannedWind plannedReady best gain chosen_5) H → va_D A (w_X3_chooseDays kc a0 a1 a2 a3 planned plannedWind plannedReady best gain chosen_5) → va_S A s.heap H locs → lv_has ls 6 [(0, .ref a0), (1, .int x1), (2, .int x2), (3, .int y3_5), (4, .int y4_5)] → W p l e ({ frames := 2, cells := 0, slots := 0, locals := 48 }) s m (([.ref a0, .int x1, .int x2] : List Value).toArray) below meth c H locs 0 0 Q (F0 m 5 ls []) := by
    intro n
    induction n with
    | zero => intro _ _ _ _ _ _ hf; rw [f_X3_chooseDays_5.eq_1] at hf; cases hf
    | succ n ih =>
      intro y4_5 y3_5 chosen_5 y4_5o y3_5o chosen_5o hf hk H locs ls hP hD hS hl
      rw [f_X3_chooseDays_5.eq_2] at hf
      refine lv_iload hx hb dX3_chooseDays_5 (lv_at hl 4 rfl) ?_
      refine lv_iload_n hx hb dX3_chooseDays_7 rfl (lv_at hl 1 rfl) ?_
      refine lv_icmp_ge (tgt := 63) hx hb dX3_chooseDays_8 (by decide) (fun hc => ?_) (fun hc => ?_)
      · have hf := o_t hc hf
        cases hf
        exact hk _ _ _ hP hD hS (lv_sub hl [0, 1, 2, 3, 4] rfl)
      · have hf := o_f hc hf
        refine lv_iload_n hx hb dX3_chooseDays_11 rfl (lv_at hl 2 rfl) ?_
        refine lv_iload hx hb dX3_chooseDays_12 (lv_at hl 4 rfl) ?_
        obtain ⟨r_1, hc, hf⟩ := ob1_some hf
        refine g_SZ (As := [.int x2, .int y4_5]) (rest := []) (ws' := (w_X3_chooseDays kc a0 a1 a2 a3 planned plannedWind plannedReady best gain chosen_5)) ⟨hx, hb, hml, hown, hts⟩ hN hK hP hD hS hA (c_X3_isIn l D kc N x2 y4_5 r_1 hc) (va_cwS 2 hts gX3_chooseDays_X3_isIn rfl rfl rfl (by decide +kernel) ⟨Nat.le_of_ble_eq_true rfl, Nat.le_of_ble_eq_true rfl⟩) [] [0, 1, 2, 3] [0, 1, 2, 3] (by exact ⟨rfl, rfl, by decide, rfl⟩) rfl hl.1 rfl (Nat.le_of_ble_eq_true rfl) dX3_chooseDays_14 ⟨Nat.le_refl _, Nat.le_refl _⟩ (fun H locs hz hP hD hS => ?_)
        have hz_2 := hz
        refine lv_if_eq (tgt := 30) hx hb dX3_chooseDays_17 (by decide) (fun hc => ?_) (fun hc => ?_)
        · have hf := o_t hc hf
          refine lv_bipush (v := (-2)) hx hb dX3_chooseDays_30 (by decide) ?_
          refine lv_istore (lv' := [(5, .int (-2)), (0, .ref a0), (1, .int x1), (2, .int x2), (3, .int y3_5), (4, .int y4_5)]) hx hb dX3_chooseDays_32 hl (by decide) rfl (fun ls hl => ?_)
          refine lv_aload_n hx hb dX3_chooseDays_34 rfl (lv_at hl 1 rfl) ?_
          refine va_get (D := D) (ci := 3) (v := .ref a3) (C := RX3) (T := TX3) (N := 6) hx hb hts in_X3 hown hK hP 0 rfl rfl 2 (by decide) lk_18 (fun _ h9 => h9) rfl dX3_chooseDays_35 ?_
          refine lv_iload hx hb dX3_chooseDays_38 (lv_at hl 5 rfl) ?_
          refine lv_iload hx hb dX3_chooseDays_40 (lv_at hl 0 rfl) ?_
          obtain ⟨hi, hf⟩ := gIx_some hf
          refine va_iast hx hb hK hP hD hS 3 1 rfl rfl hi dX3_chooseDays_42 (fun H locs hP hD hS => ?_)
          have hP : va_P D vwCl (w_X3_chooseDays kc a0 a1 a2 a3 planned plannedWind plannedReady best gain (upd chosen_5 (y4_5 : Int32).toNatClampNeg (-2))) H := hP
          have hD : va_D A (w_X3_chooseDays kc a0 a1 a2 a3 planned plannedWind plannedReady best gain (upd chosen_5 (y4_5 : Int32).toNatClampNeg (-2))) := hD
          refine lv_iload hx hb dX3_chooseDays_43 (lv_at hl 0 rfl) ?_
          refine lv_bipush (v := (-2)) hx hb dX3_chooseDays_45 (by decide) ?_
          refine lv_icmp_eq (tgt := 57) hx hb dX3_chooseDays_47 (by decide) (fun hc => ?_) (fun hc => ?_)
          · have hf := o_t hc hf
            refine lv_iinc (v := (y4_5 + 1)) (lv' := [(4, .int (y4_5 + 1)), (5, .int (-2)), (0, .ref a0), (1, .int x1), (2, .int x2), (3, .int y3_5)]) hx hb dX3_chooseDays_57 hl (k := 5) rfl (by rfl) (by decide) rfl (fun ls hl => ?_)
            refine lv_goto (tgt := 5) hx hb dX3_chooseDays_60 (by decide) ?_
            exact ih _ _ _ _ _ _ hf hk _ _ _ hP hD hS (lv_sub hl [2, 3, 4, 5, 0] rfl)
          · have hf := o_f hc hf
            refine lv_iload_n hx hb dX3_chooseDays_50 rfl (lv_at hl 4 rfl) ?_
            refine lv_iconst (v := 1) hx hb dX3_chooseDays_51 (by decide) ?_
            refine lv_iload hx hb dX3_chooseDays_52 (lv_at hl 0 rfl) ?_
            refine lv_ishl hx hb dX3_chooseDays_54 ?_
            refine lv_ior hx hb dX3_chooseDays_55 ?_
            refine lv_istore_n (lv' := [(3, .int (y3_5 ||| ((1 : Int32) <<< (((-2) : Int32) &&& 31)))), (5, .int (-2)), (0, .ref a0), (1, .int x1), (2, .int x2), (4, .int y4_5)]) hx hb dX3_chooseDays_56 rfl hl (by decide) rfl (fun ls hl => ?_)
            refine lv_iinc (v := (y4_5 + 1)) (lv' := [(4, .int (y4_5 + 1)), (3, .int (y3_5 ||| ((1 : Int32) <<< (((-2) : Int32) &&& 31)))), (5, .int (-2)), (0, .ref a0), (1, .int x1), (2, .int x2)]) hx hb dX3_chooseDays_57 hl (k := 5) rfl (by rfl) (by decide) rfl (fun ls hl => ?_)
            refine lv_goto (tgt := 5) hx hb dX3_chooseDays_60 (by decide) ?_
            exact ih _ _ _ _ _ _ hf hk _ _ _ hP hD hS (lv_sub hl [3, 4, 5, 1, 0] rfl)
        · have hf := o_f hc hf
          refine lv_aload_n hx hb dX3_chooseDays_20 rfl (lv_at hl 0 rfl) ?_
          refine lv_iload hx hb dX3_chooseDays_21 (lv_at hl 4 rfl) ?_
          refine lv_iload_n hx hb dX3_chooseDays_23 rfl (lv_at hl 3 rfl) ?_
          obtain ⟨r_3, hc, hf⟩ := ob1_some hf
          refine g_VI (As := [.int y4_5, .int y3_5]) (rest := []) (ws' := (w_X3_chooseDays kc a0 a1 a2 a3 planned plannedWind plannedReady best gain chosen_5)) ⟨hx, hb, hml, hown, hts⟩ hN hK hP hD hS hA (c_X3_firstBestDay l D kc N a0 a1 a2 a3 planned plannedWind plannedReady best gain y4_5 y3_5 r_3 hc) (cwV 2 hts gX3_chooseDays_X3_firstBestDay rfl rfl rfl (by decide +kernel) ⟨Nat.le_of_ble_eq_true rfl, Nat.le_of_ble_eq_true rfl⟩) [0, 1, 2] [3] [1, 2, 3, 0] (by exact ⟨rfl, rfl, by decide, rfl⟩) 0 3 rfl rfl rfl rfl hl.1 rfl (Nat.le_of_ble_eq_true rfl) dX3_chooseDays_24 ⟨Nat.le_refl _, Nat.le_refl _⟩ (fun H locs hP hD hS => ?_)
          refine lv_goto (tgt := 32) hx hb dX3_chooseDays_27 (by decide) ?_
          refine lv_istore (lv' := [(5, .int r_3), (0, .ref a0), (1, .int x1), (2, .int x2), (3, .int y3_5), (4, .int y4_5)]) hx hb dX3_chooseDays_32 hl (by decide) rfl (fun ls hl => ?_)
          refine lv_aload_n hx hb dX3_chooseDays_34 rfl (lv_at hl 1 rfl) ?_
          refine va_get (D := D) (ci := 3) (v := .ref a3) (C := RX3) (T := TX3) (N := 6) hx hb hts in_X3 hown hK hP 0 rfl rfl 2 (by decide) lk_18 (fun _ h9 => h9) rfl dX3_chooseDays_35 ?_
          refine lv_iload hx hb dX3_chooseDays_38 (lv_at hl 5 rfl) ?_
          refine lv_iload hx hb dX3_chooseDays_40 (lv_at hl 0 rfl) ?_
          obtain ⟨hi, hf⟩ := gIx_some hf
          refine va_iast hx hb hK hP hD hS 3 1 rfl rfl hi dX3_chooseDays_42 (fun H locs hP hD hS => ?_)
          have hP : va_P D vwCl (w_X3_chooseDays kc a0 a1 a2 a3 planned plannedWind plannedReady best gain (upd chosen_5 (y4_5 : Int32).toNatClampNeg r_3)) H := hP
          have hD : va_D A (w_X3_chooseDays kc a0 a1 a2 a3 planned plannedWind plannedReady best gain (upd chosen_5 (y4_5 : Int32).toNatClampNeg r_3)) := hD
          refine lv_iload hx hb dX3_chooseDays_43 (lv_at hl 0 rfl) ?_
          refine lv_bipush (v := (-2)) hx hb dX3_chooseDays_45 (by decide) ?_
          refine lv_icmp_eq (tgt := 57) hx hb dX3_chooseDays_47 (by decide) (fun hc => ?_) (fun hc => ?_)
          · have hf := o_t hc hf
            refine lv_iinc (v := (y4_5 + 1)) (lv' := [(4, .int (y4_5 + 1)), (5, .int r_3), (0, .ref a0), (1, .int x1), (2, .int x2), (3, .int y3_5)]) hx hb dX3_chooseDays_57 hl (k := 5) rfl (by rfl) (by decide) rfl (fun ls hl => ?_)
            refine lv_goto (tgt := 5) hx hb dX3_chooseDays_60 (by decide) ?_
            exact ih _ _ _ _ _ _ hf hk _ _ _ hP hD hS (lv_sub hl [2, 3, 4, 5, 0] rfl)
          · have hf := o_f hc hf
            refine lv_iload_n hx hb dX3_chooseDays_50 rfl (lv_at hl 4 rfl) ?_
            refine lv_iconst (v := 1) hx hb dX3_chooseDays_51 (by decide) ?_
            refine lv_iload hx hb dX3_chooseDays_52 (lv_at hl 0 rfl) ?_
            refine lv_ishl hx hb dX3_chooseDays_54 ?_
            refine lv_ior hx hb dX3_chooseDays_55 ?_
            refine lv_istore_n (lv' := [(3, .int (y3_5 ||| ((1 : Int32) <<< ((r_3 : Int32) &&& 31)))), (5, .int r_3), (0, .ref a0), (1, .int x1), (2, .int x2), (4, .int y4_5)]) hx hb dX3_chooseDays_56 rfl hl (by decide) rfl (fun ls hl => ?_)
            refine lv_iinc (v := (y4_5 + 1)) (lv' := [(4, .int (y4_5 + 1)), (3, .int (y3_5 ||| ((1 : Int32) <<< ((r_3 : Int32) &&& 31)))), (5, .int r_3), (0, .ref a0), (1, .int x1), (2, .int x2)]) hx hb dX3_chooseDays_57 hl (k := 5) rfl (by rfl) (by decide) rfl (fun ls hl => ?_)
            refine lv_goto (tgt := 5) hx hb dX3_chooseDays_60 (by decide) ?_
            exact ih _ _ _ _ _ _ hf hk _ _ _ hP hD hS (lv_sub hl [3, 4, 5, 1, 0] rfl)
  obtain ⟨y4_5o, y3_5o, chosen_5o, hc, hf⟩ := ob3_some hf
  refine L5 N _ _ _ _ _ _ hc (fun H locs ls hP hD hS hl => ?_) _ _ _ hP hD hS (lv_sub hl [2, 3, 4, 1, 0] rfl)
  cases hf
  exact kR _ _ _ _ hP hD hS dX3_chooseDays_63
abbrev w_X3_plan (kc : Nat → ClassId) (a0 a1 a2 a3 a4 a5 a6 a7 a8 a9 a10 a11 a12 a13 a14 a15 a16 a17 a18 a19 a20 a21 : Nat) (planned : Int32) (plannedWind : Int32) (plannedReady : Int32) (now : Nat → Int64) (regions : Int32) (balloons : Int32) (letters : Int32) (loft : Int32) (start : Int32) (seed : Int32) (pigeons : Nat → Int32) (capacity : Nat → Int32) (comeback : Nat → Int32) (count : Int32) (turnCount : Int32) (land : Nat → Int32) (risk : Nat → Int32) (gain : Nat → Int64) (then_ : Nat → Int64) (follow : Nat → Int32) (best : Nat → Int64) (chosen : Nat → Int32) : va_W := [(a0, .inr (3, [.ref a1, .ref a2, .ref a3, .int planned, .int plannedWind, .int plannedReady])), (a4, .inr (0, [.ref a5, .ref a6])), (a5, .inl (kc 2, 6, .inr (.inl now))), (a7, .inr (5, [.ref a8, .ref a9, .ref a10, .ref a11, .ref a12, .ref a13, .ref a14, .ref a15, .int regions, .int balloons, .int letters, .int loft, .int start, .int seed])), (a13, .inl (kc 1, 10, .inl pigeons)), (a12, .inl (kc 1, 10, .inl capacity)), (a11, .inl (kc 1, 8, .inl comeback)), (a8, .inr (7, [.int count, .int turnCount, .ref a16, .ref a17, .ref a18, .ref a19, .ref a20, .ref a21])), (a19, .inl (kc 1, 54, .inl land)), (a9, .inl (kc 1, 8, .inl risk)), (a1, .inl (kc 2, 90, .inr (.inl gain))), (a6, .inl (kc 2, 6, .inr (.inl then_))), (a18, .inl (kc 1, 36, .inl follow)), (a2, .inl (kc 2, 5632, .inr (.inl best))), (a3, .inl (kc 1, 10, .inl chosen))]
set_option maxHeartbeats 4000000 in
set_option maxRecDepth 100000 in
theorem c_X3_plan (l : Launch) (D : va_G) (kc : Nat → ClassId) (N : Nat) (a0 a1 a2 a3 a4 a5 a6 a7 a8 a9 a10 a11 a12 a13 a14 a15 a16 a17 a18 a19 a20 a21 : Nat) (planned : Int32) (plannedWind : Int32) (plannedReady : Int32) (now : Nat → Int64) (regions : Int32) (balloons : Int32) (letters : Int32) (loft : Int32) (start : Int32) (seed : Int32) (pigeons : Nat → Int32) (capacity : Nat → Int32) (comeback : Nat → Int32) (count : Int32) (turnCount : Int32) (land : Nat → Int32) (risk : Nat → Int32) (gain : Nat → Int64) (then_ : Nat → Int64) (follow : Nat → Int32) (best : Nat → Int64) (chosen : Nat → Int32) (x2 : Int32) (x3 : Int32) (planned' : Int32) (plannedWind' : Int32) (plannedReady' : Int32) (now' : Nat → Int64) (gain' : Nat → Int64) (then_' : Nat → Int64) (best' : Nat → Int64) (chosen' : Nat → Int32) (hf : f_X3_plan N planned plannedWind plannedReady now regions balloons pigeons capacity comeback count land risk gain then_ follow best chosen x2 x3 = some (planned', plannedWind', plannedReady', now', gain', then_', best', chosen')) : MV l yX3_plan wsX3_plan ({ frames := 5, cells := 0, slots := 0, locals := 124 }) D kc [.ref a0, .ref a7, .int x2, .int x3, .ref a4] (w_X3_plan kc a0 a1 a2 a3 a4 a5 a6 a7 a8 a9 a10 a11 a12 a13 a14 a15 a16 a17 a18 a19 a20 a21 planned plannedWind plannedReady now regions balloons letters loft start seed pigeons capacity comeback count turnCount land risk gain then_ follow best chosen) (w_X3_plan kc a0 a1 a2 a3 a4 a5 a6 a7 a8 a9 a10 a11 a12 a13 a14 a15 a16 a17 a18 a19 a20 a21 planned' plannedWind' plannedReady' now' regions balloons letters loft start seed pigeons capacity comeback count turnCount land risk gain' then_' follow best' chosen') := by
  refine gM_V (cc := cX3_plan) (maxL := 5) (by decide) rfl (Nat.le_of_ble_eq_true rfl) ?_
  intro p e s m below meth c A ls Q hx hb hml hown hts hN hK hP hD hA hl kR
  have hS : va_S A s.heap s.heap [] := va_S.rf
  have hl : lv_has ls 5 [(0, .ref a0), (1, .ref a7), (2, .int x2), (3, .int x3), (4, .ref a4)] := hl
  have in_X3 : ∀ w ∈ u_ws RX3 TX3 6, w ∈ wsX3_plan := by decide +kernel
  have lk_22 := hts (.fieldLink RX3 22 "BalloonMail$Planner" "planned" "Z") (by decide +kernel)
  have in_X5 : ∀ w ∈ u_ws RX5 TX5 14, w ∈ wsX3_plan := by decide +kernel
  have lk_37 := hts (.fieldLink RX3 37 "BalloonMail$Siege" "balloons" "I") (by decide +kernel)
  have lk_26 := hts (.fieldLink RX3 26 "BalloonMail$Planner" "plannedWind" "I") (by decide +kernel)
  have lk_30 := hts (.fieldLink RX3 30 "BalloonMail$Planner" "plannedReady" "I") (by decide +kernel)
  have J24 : ∀ (_ : Unit), f_X3_plan_j24 N now regions balloons pigeons capacity comeback count land risk gain then_ follow best chosen x2 x3  = some (planned', plannedWind', plannedReady', now', gain', then_', best', chosen') → ∀ (H : Heap) (locs : List Loc) (ls : Array Slot), va_P D vwCl (w_X3_plan kc a0 a1 a2 a3 a4 a5 a6 a7 a8 a9 a10 a11 a12 a13 a14 a15 a16 a17 a18 a19 a20 a21 planned plannedWind plannedReady now regions balloons letters loft start seed pigeons capacity comeback count turnCount land risk gain then_ follow best chosen) H → va_D A (w_X3_plan kc a0 a1 a2 a3 a4 a5 a6 a7 a8 a9 a10 a11 a12 a13 a14 a15 a16 a17 a18 a19 a20 a21 planned plannedWind plannedReady now regions balloons letters loft start seed pigeons capacity comeback count turnCount land risk gain then_ follow best chosen) → va_S A s.heap H locs → lv_has ls 5 [(0, .ref a0), (1, .ref a7), (2, .int x2), (3, .int x3), (4, .ref a4)] → W p l e ({ frames := 5, cells := 0, slots := 0, locals := 124 }) s m (([.ref a0, .ref a7, .int x2, .int x3, .ref a4] : List Value).toArray) below meth c H locs 0 0 Q (F0 m 24 ls []) := by
    clear hf
    intro _ hf H locs ls hP hD hS hl
    unfold f_X3_plan_j24 at hf
    refine lv_aload_n hx hb dX3_plan_24 rfl (lv_at hl 0 rfl) ?_
    refine lv_aload_n hx hb dX3_plan_25 rfl (lv_at hl 1 rfl) ?_
    refine lv_iload_n hx hb dX3_plan_26 rfl (lv_at hl 2 rfl) ?_
    refine lv_aload hx hb dX3_plan_27 (lv_at hl 4 rfl) ?_
    obtain ⟨now_1, gain_2, then__3, hc, hf⟩ := ob3_some hf
    refine g_VV (As := [.ref a7, .int x2, .ref a4]) (rest := []) (ws' := (w_X3_plan kc a0 a1 a2 a3 a4 a5 a6 a7 a8 a9 a10 a11 a12 a13 a14 a15 a16 a17 a18 a19 a20 a21 planned plannedWind plannedReady now_1 regions balloons letters loft start seed pigeons capacity comeback count turnCount land risk gain_2 then__3 follow best chosen)) ⟨hx, hb, hml, hown, hts⟩ hN hK hP hD hS hA (c_X3_weighGains l D kc N a4 a5 a6 a7 a8 a9 a10 a11 a12 a13 a14 a15 a0 a1 a2 a3 a16 a17 a18 a19 a20 a21 now regions balloons letters loft start seed pigeons planned plannedWind plannedReady capacity comeback count turnCount land risk gain then_ follow x2 now_1 gain_2 then__3 hc) (cwV 3 hts gX3_plan_X3_weighGains rfl rfl rfl (by decide +kernel) ⟨Nat.le_of_ble_eq_true rfl, Nat.le_of_ble_eq_true rfl⟩) [1, 2, 3, 4, 0, 5, 6, 7, 8, 9, 10, 11, 12] [13, 14] [6, 2, 3, 4, 5, 7, 8, 9, 10, 11, 12, 13, 14, 0, 1] (by exact ⟨rfl, rfl, by decide, rfl⟩) 0 3 rfl rfl rfl rfl hl.1 rfl (Nat.le_of_ble_eq_true rfl) dX3_plan_29 ⟨Nat.le_refl _, Nat.le_refl _⟩ (fun H locs hP hD hS => ?_)
    refine lv_aload_n hx hb dX3_plan_32 rfl (lv_at hl 0 rfl) ?_
    refine lv_aload_n hx hb dX3_plan_33 rfl (lv_at hl 1 rfl) ?_
    refine va_get (D := D) (ci := 5) (v := .int balloons) (C := RX5) (T := TX5) (N := 14) hx hb hts in_X5 hown hK hP 3 rfl rfl 9 (by decide) lk_37 (fun _ h9 => h9) rfl dX3_plan_34 ?_
    refine lv_iload_n hx hb dX3_plan_37 rfl (lv_at hl 3 rfl) ?_
    obtain ⟨best_4, hc, hf⟩ := ob1_some hf
    refine g_VV (As := [.int balloons, .int x3]) (rest := []) (ws' := (w_X3_plan kc a0 a1 a2 a3 a4 a5 a6 a7 a8 a9 a10 a11 a12 a13 a14 a15 a16 a17 a18 a19 a20 a21 planned plannedWind plannedReady now_1 regions balloons letters loft start seed pigeons capacity comeback count turnCount land risk gain_2 then__3 follow best_4 chosen)) ⟨hx, hb, hml, hown, hts⟩ hN hK hP hD hS hA (c_X3_fillBest l D kc N a0 a1 a2 a3 planned plannedWind plannedReady best gain_2 balloons x3 best_4 hc) (cwV 2 hts gX3_plan_X3_fillBest rfl rfl rfl (by decide +kernel) ⟨Nat.le_of_ble_eq_true rfl, Nat.le_of_ble_eq_true rfl⟩) [0, 13, 10] [1, 2, 3, 4, 5, 6, 7, 8, 9, 11, 12, 14] [12, 0, 1, 2, 3, 4, 5, 6, 7, 8, 14, 9, 10, 13, 11] (by exact ⟨rfl, rfl, by decide, rfl⟩) 0 3 rfl rfl rfl rfl hl.1 rfl (Nat.le_of_ble_eq_true rfl) dX3_plan_38 ⟨Nat.le_refl _, Nat.le_refl _⟩ (fun H locs hP hD hS => ?_)
    refine lv_aload_n hx hb dX3_plan_41 rfl (lv_at hl 0 rfl) ?_
    refine lv_aload_n hx hb dX3_plan_42 rfl (lv_at hl 1 rfl) ?_
    refine va_get (D := D) (ci := 5) (v := .int balloons) (C := RX5) (T := TX5) (N := 14) hx hb hts in_X5 hown hK hP 3 rfl rfl 9 (by decide) lk_37 (fun _ h9 => h9) rfl dX3_plan_43 ?_
    refine lv_iload_n hx hb dX3_plan_46 rfl (lv_at hl 3 rfl) ?_
    obtain ⟨chosen_5, hc, hf⟩ := ob1_some hf
    refine g_VV (As := [.int balloons, .int x3]) (rest := []) (ws' := (w_X3_plan kc a0 a1 a2 a3 a4 a5 a6 a7 a8 a9 a10 a11 a12 a13 a14 a15 a16 a17 a18 a19 a20 a21 planned plannedWind plannedReady now_1 regions balloons letters loft start seed pigeons capacity comeback count turnCount land risk gain_2 then__3 follow best_4 chosen_5)) ⟨hx, hb, hml, hown, hts⟩ hN hK hP hD hS hA (c_X3_chooseDays l D kc N a0 a1 a2 a3 planned plannedWind plannedReady best_4 gain_2 chosen balloons x3 chosen_5 hc) (cwV 2 hts gX3_plan_X3_chooseDays rfl rfl rfl (by decide +kernel) ⟨Nat.le_of_ble_eq_true rfl, Nat.le_of_ble_eq_true rfl⟩) [0, 13, 10, 14] [1, 2, 3, 4, 5, 6, 7, 8, 9, 11, 12] [11, 0, 1, 2, 3, 4, 5, 6, 7, 8, 13, 9, 10, 12, 14] (by exact ⟨rfl, rfl, by decide, rfl⟩) 0 3 rfl rfl rfl rfl hl.1 rfl (Nat.le_of_ble_eq_true rfl) dX3_plan_47 ⟨Nat.le_refl _, Nat.le_refl _⟩ (fun H locs hP hD hS => ?_)
    refine lv_aload_n hx hb dX3_plan_50 rfl (lv_at hl 0 rfl) ?_
    refine lv_iconst (v := 1) hx hb dX3_plan_51 (by decide) ?_
    refine va_put (D := D) (ci := 3) (v := .int 1) (ty := .boolean) (C := RX3) (T := TX3) (N := 6) hx hb hts in_X3 tyX3 tyX3_ok nmX3 hown hK hP hD hS 0 rfl rfl 3 (by decide) lk_22 (fun _ h9 => h9) rfl (by decide +kernel) rfl rfl (Nat.le_of_ble_eq_true rfl) dX3_plan_52 (fun H locs hP hD hS => ?_)
    have hP : va_P D vwCl (w_X3_plan kc a0 a1 a2 a3 a4 a5 a6 a7 a8 a9 a10 a11 a12 a13 a14 a15 a16 a17 a18 a19 a20 a21 1 plannedWind plannedReady now_1 regions balloons letters loft start seed pigeons capacity comeback count turnCount land risk gain_2 then__3 follow best_4 chosen_5) H := hP
    have hD : va_D A (w_X3_plan kc a0 a1 a2 a3 a4 a5 a6 a7 a8 a9 a10 a11 a12 a13 a14 a15 a16 a17 a18 a19 a20 a21 1 plannedWind plannedReady now_1 regions balloons letters loft start seed pigeons capacity comeback count turnCount land risk gain_2 then__3 follow best_4 chosen_5) := hD
    refine lv_aload_n hx hb dX3_plan_55 rfl (lv_at hl 0 rfl) ?_
    refine lv_iload_n hx hb dX3_plan_56 rfl (lv_at hl 2 rfl) ?_
    refine va_put (D := D) (ci := 3) (v := .int x2) (ty := .int) (C := RX3) (T := TX3) (N := 6) hx hb hts in_X3 tyX3 tyX3_ok nmX3 hown hK hP hD hS 0 rfl rfl 4 (by decide) lk_26 (fun _ h9 => h9) rfl (by decide +kernel) rfl rfl (Nat.le_of_ble_eq_true rfl) dX3_plan_57 (fun H locs hP hD hS => ?_)
    have hP : va_P D vwCl (w_X3_plan kc a0 a1 a2 a3 a4 a5 a6 a7 a8 a9 a10 a11 a12 a13 a14 a15 a16 a17 a18 a19 a20 a21 1 x2 plannedReady now_1 regions balloons letters loft start seed pigeons capacity comeback count turnCount land risk gain_2 then__3 follow best_4 chosen_5) H := hP
    have hD : va_D A (w_X3_plan kc a0 a1 a2 a3 a4 a5 a6 a7 a8 a9 a10 a11 a12 a13 a14 a15 a16 a17 a18 a19 a20 a21 1 x2 plannedReady now_1 regions balloons letters loft start seed pigeons capacity comeback count turnCount land risk gain_2 then__3 follow best_4 chosen_5) := hD
    refine lv_aload_n hx hb dX3_plan_60 rfl (lv_at hl 0 rfl) ?_
    refine lv_iload_n hx hb dX3_plan_61 rfl (lv_at hl 3 rfl) ?_
    refine va_put (D := D) (ci := 3) (v := .int x3) (ty := .int) (C := RX3) (T := TX3) (N := 6) hx hb hts in_X3 tyX3 tyX3_ok nmX3 hown hK hP hD hS 0 rfl rfl 5 (by decide) lk_30 (fun _ h9 => h9) rfl (by decide +kernel) rfl rfl (Nat.le_of_ble_eq_true rfl) dX3_plan_62 (fun H locs hP hD hS => ?_)
    have hP : va_P D vwCl (w_X3_plan kc a0 a1 a2 a3 a4 a5 a6 a7 a8 a9 a10 a11 a12 a13 a14 a15 a16 a17 a18 a19 a20 a21 1 x2 x3 now_1 regions balloons letters loft start seed pigeons capacity comeback count turnCount land risk gain_2 then__3 follow best_4 chosen_5) H := hP
    have hD : va_D A (w_X3_plan kc a0 a1 a2 a3 a4 a5 a6 a7 a8 a9 a10 a11 a12 a13 a14 a15 a16 a17 a18 a19 a20 a21 1 x2 x3 now_1 regions balloons letters loft start seed pigeons capacity comeback count turnCount land risk gain_2 then__3 follow best_4 chosen_5) := hD
    cases hf
    exact kR _ _ _ _ hP hD hS dX3_plan_65
  unfold f_X3_plan at hf
  refine lv_aload_n hx hb dX3_plan_0 rfl (lv_at hl 0 rfl) ?_
  refine va_get (D := D) (ci := 3) (v := .int planned) (C := RX3) (T := TX3) (N := 6) hx hb hts in_X3 hown hK hP 0 rfl rfl 3 (by decide) lk_22 (fun _ h9 => h9) rfl dX3_plan_1 ?_
  refine lv_if_eq (tgt := 24) hx hb dX3_plan_4 (by decide) (fun hc => ?_) (fun hc => ?_)
  · have hf := o_t hc hf
    exact J24 () hf _ _ _ hP hD hS (lv_sub hl [0, 1, 2, 3, 4] rfl)
  · have hf := o_f hc hf
    refine lv_iload_n hx hb dX3_plan_7 rfl (lv_at hl 2 rfl) ?_
    refine lv_aload_n hx hb dX3_plan_8 rfl (lv_at hl 0 rfl) ?_
    refine va_get (D := D) (ci := 3) (v := .int plannedWind) (C := RX3) (T := TX3) (N := 6) hx hb hts in_X3 hown hK hP 0 rfl rfl 4 (by decide) lk_26 (fun _ h9 => h9) rfl dX3_plan_9 ?_
    refine lv_icmp_ne (tgt := 24) hx hb dX3_plan_12 (by decide) (fun hc => ?_) (fun hc => ?_)
    · have hf := o_f hc hf
      exact J24 () hf _ _ _ hP hD hS (lv_sub hl [0, 1, 2, 3, 4] rfl)
    · have hf := o_t hc hf
      refine lv_iload_n hx hb dX3_plan_15 rfl (lv_at hl 3 rfl) ?_
      refine lv_aload_n hx hb dX3_plan_16 rfl (lv_at hl 0 rfl) ?_
      refine va_get (D := D) (ci := 3) (v := .int plannedReady) (C := RX3) (T := TX3) (N := 6) hx hb hts in_X3 hown hK hP 0 rfl rfl 5 (by decide) lk_30 (fun _ h9 => h9) rfl dX3_plan_17 ?_
      refine lv_icmp_ne (tgt := 24) hx hb dX3_plan_20 (by decide) (fun hc => ?_) (fun hc => ?_)
      · have hf := o_f hc hf
        exact J24 () hf _ _ _ hP hD hS (lv_sub hl [0, 1, 2, 3, 4] rfl)
      · have hf := o_t hc hf
        cases hf
        exact kR _ _ _ _ hP hD hS dX3_plan_23
abbrev w_X2_allow (kc : Nat → ClassId) (a0 a1 : Nat) (lightest : Nat → Int64) : va_W := [(a0, .inr (2, [.ref a1])), (a1, .inl (kc 2, 217, .inr (.inl lightest)))]
set_option maxHeartbeats 4000000 in
set_option maxRecDepth 100000 in
theorem c_X2_allow (l : Launch) (D : va_G) (kc : Nat → ClassId) (N : Nat) (a0 a1 : Nat) (lightest : Nat → Int64) (x1 : Int64) (x2 : Int32) (lightest' : Nat → Int64) (hf : f_X2_allow N lightest x1 x2 = some lightest') : MV l yX2_allow wsX2_allow ({ frames := 1, cells := 0, slots := 0, locals := 23 }) D kc [.ref a0, .long x1, .int x2] (w_X2_allow kc a0 a1 lightest) (w_X2_allow kc a0 a1 lightest') := by
  refine gM_V (cc := cX2_allow) (maxL := 5) (by decide) rfl (Nat.le_of_ble_eq_true rfl) ?_
  intro p e s m below meth c A ls Q hx hb hml hown hts hN hK hP hD hA hl kR
  have hS : va_S A s.heap s.heap [] := va_S.rf
  have hl : lv_has ls 5 [(0, .ref a0), (1, .long x1), (3, .int x2)] := hl
  have in_X2 : ∀ w ∈ u_ws RX2 TX2 1, w ∈ wsX2_allow := by decide +kernel
  have lk_11 := hts (.fieldLink RX2 11 "BalloonMail$Loader" "lightest" "[J") (by decide +kernel)
  unfold f_X2_allow at hf
  refine lv_sipush (v := 216) hx hb dX2_allow_0 (by decide) ?_
  refine lv_istore (lv' := [(4, .int 216), (0, .ref a0), (1, .long x1), (3, .int x2)]) hx hb dX2_allow_3 hl (by decide) rfl (fun ls hl => ?_)
  have L5 : ∀ (n : Nat) (y4_5 : Int32) (lightest_5 : Nat → Int64) (y4_5o : Int32) (lightest_5o : Nat → Int64), f_X2_allow_5 N x1 x2 n y4_5 lightest_5 = some (y4_5o, lightest_5o) → (∀ (H : Heap) (locs : List Loc) (ls : Array Slot), va_P D vwCl (w_X2_allow kc a0 a1 lightest_5o) H → va_D A (w_X2_allow kc a0 a1 lightest_5o) → va_S A s.heap H locs → lv_has ls 5 [(0, .ref a0), (1, .long x1), (3, .int x2), (4, .int y4_5o)] → W p l e ({ frames := 1, cells := 0, slots := 0, locals := 23 }) s m (([.ref a0, .long x1, .int x2] : List Value).toArray) below meth c H locs 0 0 Q (F0 m 49 ls [])) → ∀ (H : Heap) (locs : List Loc) (ls : Array Slot), va_P D vwCl (w_X2_allow kc a0 a1 lightest_5) H → va_D A (w_X2_allow kc a0 a1 lightest_5) → va_S A s.heap H locs → lv_has ls 5 [(0, .ref a0), (1, .long x1), (3, .int x2), (4, .int y4_5)] → W p l e ({ frames := 1, cells := 0, slots := 0, locals := 23 }) s m (([.ref a0, .long x1, .int x2] : List Value).toArray) below meth c H locs 0 0 Q (F0 m 5 ls []) := by
    intro n
    induction n with
    | zero => intro _ _ _ _ hf; rw [f_X2_allow_5.eq_1] at hf; cases hf
    | succ n ih =>
      intro y4_5 lightest_5 y4_5o lightest_5o hf hk H locs ls hP hD hS hl
      rw [f_X2_allow_5.eq_2] at hf
      refine lv_iload hx hb dX2_allow_5 (lv_at hl 3 rfl) ?_
      refine lv_iload_n hx hb dX2_allow_7 rfl (lv_at hl 2 rfl) ?_
      refine lv_icmp_lt (tgt := 49) hx hb dX2_allow_8 (by decide) (fun hc => ?_) (fun hc => ?_)
      · have hf := o_t hc hf
        cases hf
        exact hk _ _ _ hP hD hS (lv_sub hl [0, 1, 2, 3] rfl)
      · have hf := o_f hc hf
        refine lv_iload_n hx hb dX2_allow_11 rfl (lv_at hl 2 rfl) ?_
        refine lv_if_lt (tgt := 49) hx hb dX2_allow_12 (by decide) (fun hc => ?_) (fun hc => ?_)
        · have hf := o_t hc hf
          cases hf
          exact hk _ _ _ hP hD hS (lv_sub hl [0, 1, 2, 3] rfl)
        · have hf := o_f hc hf
          refine lv_aload_n hx hb dX2_allow_15 rfl (lv_at hl 0 rfl) ?_
          refine va_get (D := D) (ci := 2) (v := .ref a1) (C := RX2) (T := TX2) (N := 1) hx hb hts in_X2 hown hK hP 0 rfl rfl 0 (by decide) lk_11 (fun _ h9 => h9) rfl dX2_allow_16 ?_
          refine lv_iload hx hb dX2_allow_19 (lv_at hl 3 rfl) ?_
          refine lv_aload_n hx hb dX2_allow_21 rfl (lv_at hl 0 rfl) ?_
          refine va_get (D := D) (ci := 2) (v := .ref a1) (C := RX2) (T := TX2) (N := 1) hx hb hts in_X2 hown hK hP 0 rfl rfl 0 (by decide) lk_11 (fun _ h9 => h9) rfl dX2_allow_22 ?_
          refine lv_iload hx hb dX2_allow_25 (lv_at hl 3 rfl) ?_
          obtain ⟨hi, hf⟩ := gIx_some hf
          refine va_lald hx hb hK hP 1 2 rfl rfl hi dX2_allow_27 ?_
          refine lv_aload_n hx hb dX2_allow_28 rfl (lv_at hl 0 rfl) ?_
          refine va_get (D := D) (ci := 2) (v := .ref a1) (C := RX2) (T := TX2) (N := 1) hx hb hts in_X2 hown hK hP 0 rfl rfl 0 (by decide) lk_11 (fun _ h9 => h9) rfl dX2_allow_29 ?_
          refine lv_iload hx hb dX2_allow_32 (lv_at hl 3 rfl) ?_
          refine lv_iload_n hx hb dX2_allow_34 rfl (lv_at hl 2 rfl) ?_
          refine lv_isub hx hb dX2_allow_35 ?_
          obtain ⟨hi, hf⟩ := gIx_some hf
          refine va_lald hx hb hK hP 1 2 rfl rfl hi dX2_allow_36 ?_
          refine lv_lload_n hx hb dX2_allow_37 rfl (lv_at hl 1 rfl) ?_
          refine lv_ladd hx hb dX2_allow_38 ?_
          refine va_mmin_long hx hb (hml.trans hl.1.symm) hown (hts (.methodLink RX2 42 Lib.MathLoose.min_long.x) (by decide +kernel)) (hts (.static Lib.MathLoose.min_long.x) (by decide +kernel)) (hts (.initialized "java/lang/Math") (by decide +kernel)) (hts (.code Lib.MathLoose.min_long.x Lib.MathLoose.min_long.code 4 (some .long)) (by decide +kernel)) (Nat.le_of_ble_eq_true rfl) (Nat.le_of_ble_eq_true rfl) (Nat.le_refl _) (Nat.le_refl _) dX2_allow_39 ?_
          obtain ⟨hi, hf⟩ := gIx_some hf
          refine va_last hx hb hK hP hD hS 1 2 rfl rfl hi dX2_allow_42 (fun H locs hP hD hS => ?_)
          have hP : va_P D vwCl (w_X2_allow kc a0 a1 (vp_updL lightest_5 (y4_5 : Int32).toNatClampNeg (if ((lightest_5 ((y4_5 - x2) : Int32).toNatClampNeg) + x1) < (lightest_5 (y4_5 : Int32).toNatClampNeg) then ((lightest_5 ((y4_5 - x2) : Int32).toNatClampNeg) + x1) else (lightest_5 (y4_5 : Int32).toNatClampNeg)))) H := hP
          have hD : va_D A (w_X2_allow kc a0 a1 (vp_updL lightest_5 (y4_5 : Int32).toNatClampNeg (if ((lightest_5 ((y4_5 - x2) : Int32).toNatClampNeg) + x1) < (lightest_5 (y4_5 : Int32).toNatClampNeg) then ((lightest_5 ((y4_5 - x2) : Int32).toNatClampNeg) + x1) else (lightest_5 (y4_5 : Int32).toNatClampNeg)))) := hD
          refine lv_iinc (v := (y4_5 + (-1))) (lv' := [(4, .int (y4_5 + (-1))), (0, .ref a0), (1, .long x1), (3, .int x2)]) hx hb dX2_allow_43 hl (k := 3) rfl (by rfl) (by decide) rfl (fun ls hl => ?_)
          refine lv_goto (tgt := 5) hx hb dX2_allow_46 (by decide) ?_
          exact ih _ _ _ _ hf hk _ _ _ hP hD hS (lv_sub hl [1, 2, 3, 0] rfl)
  obtain ⟨y4_5o, lightest_5o, hc, hf⟩ := ob2_some hf
  refine L5 N _ _ _ _ hc (fun H locs ls hP hD hS hl => ?_) _ _ _ hP hD hS (lv_sub hl [1, 2, 3, 0] rfl)
  cases hf
  exact kR _ _ _ _ hP hD hS dX2_allow_49
abbrev w_X2_best (kc : Nat → ClassId) (a0 a1 a2 a3 a4 a5 a6 a7 a8 a9 a10 : Nat) (lightest : Nat → Int64) (regions : Int32) (balloons : Int32) (letters : Int32) (loft : Int32) (start : Int32) (seed : Int32) (weight : Nat → Int32) (priority : Nat → Int32) : va_W := [(a0, .inr (2, [.ref a1])), (a1, .inl (kc 2, 217, .inr (.inl lightest))), (a2, .inr (5, [.ref a3, .ref a4, .ref a5, .ref a6, .ref a7, .ref a8, .ref a9, .ref a10, .int regions, .int balloons, .int letters, .int loft, .int start, .int seed])), (a9, .inl (kc 1, 24, .inl weight)), (a10, .inl (kc 1, 24, .inl priority))]
set_option maxHeartbeats 4000000 in
set_option maxRecDepth 100000 in
theorem c_X2_best (l : Launch) (D : va_G) (kc : Nat → ClassId) (N : Nat) (a0 a1 a2 a3 a4 a5 a6 a7 a8 a9 a10 : Nat) (lightest : Nat → Int64) (regions : Int32) (balloons : Int32) (letters : Int32) (loft : Int32) (start : Int32) (seed : Int32) (weight : Nat → Int32) (priority : Nat → Int32) (x2 : Int32) (x3 : Int32) (r_ : Int32) (lightest' : Nat → Int64) (hf : f_X2_best N lightest letters weight priority x2 x3 = some (r_, lightest')) : MI l yX2_best wsX2_best ({ frames := 2, cells := 0, slots := 0, locals := 47 }) D kc [.ref a0, .ref a2, .int x2, .int x3] (w_X2_best kc a0 a1 a2 a3 a4 a5 a6 a7 a8 a9 a10 lightest regions balloons letters loft start seed weight priority) (w_X2_best kc a0 a1 a2 a3 a4 a5 a6 a7 a8 a9 a10 lightest' regions balloons letters loft start seed weight priority) r_ := by
  refine gM_I (cc := cX2_best) (maxL := 7) (by decide) rfl (Nat.le_of_ble_eq_true rfl) ?_
  intro p e s m below meth c A ls Q hx hb hml hown hts hN hK hP hD hA hl kR
  have hS : va_S A s.heap s.heap [] := va_S.rf
  have hl : lv_has ls 7 [(0, .ref a0), (1, .ref a2), (2, .int x2), (3, .int x3)] := hl
  have in_X2 : ∀ w ∈ u_ws RX2 TX2 1, w ∈ wsX2_best := by decide +kernel
  have lk_11 := hts (.fieldLink RX2 11 "BalloonMail$Loader" "lightest" "[J") (by decide +kernel)
  have in_X5 : ∀ w ∈ u_ws RX5 TX5 14, w ∈ wsX2_best := by decide +kernel
  have lk_23 := hts (.fieldLink RX2 23 "BalloonMail$Siege" "letters" "I") (by decide +kernel)
  have lk_29 := hts (.fieldLink RX2 29 "BalloonMail$Siege" "weight" "[I") (by decide +kernel)
  have lk_33 := hts (.fieldLink RX2 33 "BalloonMail$Siege" "priority" "[I") (by decide +kernel)
  unfold f_X2_best at hf
  refine lv_aload_n hx hb dX2_best_0 rfl (lv_at hl 0 rfl) ?_
  refine va_get (D := D) (ci := 2) (v := .ref a1) (C := RX2) (T := TX2) (N := 1) hx hb hts in_X2 hown hK hP 0 rfl rfl 0 (by decide) lk_11 (fun _ h9 => h9) rfl dX2_best_1 ?_
  refine lv_ldc2 (v := 1152921504606846976) hx hb hown (hts (.constantLong RX2 15 (1152921504606846976)) (by decide +kernel)) dX2_best_4 ?_
  obtain ⟨lightest_1, hc, hf⟩ := ob1_some hf
  refine g_SV (As := [.ref a1, .long 1152921504606846976]) (rest := []) (ws' := (w_X2_best kc a0 a1 a2 a3 a4 a5 a6 a7 a8 a9 a10 lightest_1 regions balloons letters loft start seed weight priority)) ⟨hx, hb, hml, hown, hts⟩ hN hK hP hD hS hA (c_J7_fill_d0a16 l D kc N a1 217 lightest 1152921504606846976 lightest_1 hc) (va_cwS 2 hts gX2_best_J7_fill_d0a16 rfl rfl rfl (by decide +kernel) ⟨Nat.le_of_ble_eq_true rfl, Nat.le_of_ble_eq_true rfl⟩) [1] [0, 2, 3, 4] [0, 4, 1, 2, 3] (by exact ⟨rfl, rfl, by decide, rfl⟩) rfl hl.1 rfl (Nat.le_of_ble_eq_true rfl) dX2_best_7 ⟨Nat.le_refl _, Nat.le_refl _⟩ (fun H locs hP hD hS => ?_)
  refine lv_aload_n hx hb dX2_best_10 rfl (lv_at hl 0 rfl) ?_
  refine va_get (D := D) (ci := 2) (v := .ref a1) (C := RX2) (T := TX2) (N := 1) hx hb hts in_X2 hown hK hP 0 rfl rfl 0 (by decide) lk_11 (fun _ h9 => h9) rfl dX2_best_11 ?_
  refine lv_iconst (v := 0) hx hb dX2_best_14 (by decide) ?_
  refine lv_lconst (v := 0) hx hb dX2_best_15 (by decide) ?_
  obtain ⟨hi, hf⟩ := gIx_some hf
  refine va_last hx hb hK hP hD hS 1 2 rfl rfl hi dX2_best_16 (fun H locs hP hD hS => ?_)
  have hP : va_P D vwCl (w_X2_best kc a0 a1 a2 a3 a4 a5 a6 a7 a8 a9 a10 (vp_updL lightest_1 (0 : Int32).toNatClampNeg 0) regions balloons letters loft start seed weight priority) H := hP
  have hD : va_D A (w_X2_best kc a0 a1 a2 a3 a4 a5 a6 a7 a8 a9 a10 (vp_updL lightest_1 (0 : Int32).toNatClampNeg 0) regions balloons letters loft start seed weight priority) := hD
  refine lv_iconst (v := 0) hx hb dX2_best_17 (by decide) ?_
  refine lv_istore (lv' := [(4, .int 0), (0, .ref a0), (1, .ref a2), (2, .int x2), (3, .int x3)]) hx hb dX2_best_18 hl (by decide) rfl (fun ls hl => ?_)
  have L20 : ∀ (n : Nat) (y4_20 : Int32) (lightest_20 : Nat → Int64) (y4_20o : Int32) (lightest_20o : Nat → Int64), f_X2_best_20 N letters weight priority x2 n y4_20 lightest_20 = some (y4_20o, lightest_20o) → (∀ (H : Heap) (locs : List Loc) (ls : Array Slot), va_P D vwCl (w_X2_best kc a0 a1 a2 a3 a4 a5 a6 a7 a8 a9 a10 lightest_20o regions balloons letters loft start seed weight priority) H → va_D A (w_X2_best kc a0 a1 a2 a3 a4 a5 a6 a7 a8 a9 a10 lightest_20o regions balloons letters loft start seed weight priority) → va_S A s.heap H locs → lv_has ls 7 [(0, .ref a0), (1, .ref a2), (2, .int x2), (3, .int x3), (4, .int y4_20o)] → W p l e ({ frames := 2, cells := 0, slots := 0, locals := 47 }) s m (([.ref a0, .ref a2, .int x2, .int x3] : List Value).toArray) below meth c H locs 0 0 Q (F0 m 76 ls [])) → ∀ (H : Heap) (locs : List Loc) (ls : Array Slot), va_P D vwCl (w_X2_best kc a0 a1 a2 a3 a4 a5 a6 a7 a8 a9 a10 lightest_20 regions balloons letters loft start seed weight priority) H → va_D A (w_X2_best kc a0 a1 a2 a3 a4 a5 a6 a7 a8 a9 a10 lightest_20 regions balloons letters loft start seed weight priority) → va_S A s.heap H locs → lv_has ls 7 [(0, .ref a0), (1, .ref a2), (2, .int x2), (3, .int x3), (4, .int y4_20)] → W p l e ({ frames := 2, cells := 0, slots := 0, locals := 47 }) s m (([.ref a0, .ref a2, .int x2, .int x3] : List Value).toArray) below meth c H locs 0 0 Q (F0 m 20 ls []) := by
    intro n
    induction n with
    | zero => intro _ _ _ _ hf; rw [f_X2_best_20.eq_1] at hf; cases hf
    | succ n ih =>
      intro y4_20 lightest_20 y4_20o lightest_20o hf hk H locs ls hP hD hS hl
      rw [f_X2_best_20.eq_2] at hf
      refine lv_iload hx hb dX2_best_20 (lv_at hl 4 rfl) ?_
      refine lv_aload_n hx hb dX2_best_22 rfl (lv_at hl 1 rfl) ?_
      refine va_get (D := D) (ci := 5) (v := .int letters) (C := RX5) (T := TX5) (N := 14) hx hb hts in_X5 hown hK hP 2 rfl rfl 10 (by decide) lk_23 (fun _ h9 => h9) rfl dX2_best_23 ?_
      refine lv_icmp_ge (tgt := 76) hx hb dX2_best_26 (by decide) (fun hc => ?_) (fun hc => ?_)
      · have hf := o_t hc hf
        cases hf
        exact hk _ _ _ hP hD hS (lv_sub hl [0, 1, 2, 3, 4] rfl)
      · have hf := o_f hc hf
        refine lv_iload_n hx hb dX2_best_29 rfl (lv_at hl 2 rfl) ?_
        refine lv_iload hx hb dX2_best_30 (lv_at hl 4 rfl) ?_
        refine lv_ishr hx hb dX2_best_32 ?_
        refine lv_iconst (v := 1) hx hb dX2_best_33 (by decide) ?_
        refine lv_iand hx hb dX2_best_34 ?_
        refine lv_iconst (v := 1) hx hb dX2_best_35 (by decide) ?_
        refine lv_icmp_ne (tgt := 70) hx hb dX2_best_36 (by decide) (fun hc => ?_) (fun hc => ?_)
        · have hf := o_f hc hf
          refine lv_iinc (v := (y4_20 + 1)) (lv' := [(4, .int (y4_20 + 1)), (0, .ref a0), (1, .ref a2), (2, .int x2), (3, .int x3)]) hx hb dX2_best_70 hl (k := 4) rfl (by rfl) (by decide) rfl (fun ls hl => ?_)
          refine lv_goto (tgt := 20) hx hb dX2_best_73 (by decide) ?_
          exact ih _ _ _ _ hf hk _ _ _ hP hD hS (lv_sub hl [1, 2, 3, 4, 0] rfl)
        · have hf := o_t hc hf
          refine lv_aload_n hx hb dX2_best_39 rfl (lv_at hl 1 rfl) ?_
          refine va_get (D := D) (ci := 5) (v := .ref a9) (C := RX5) (T := TX5) (N := 14) hx hb hts in_X5 hown hK hP 2 rfl rfl 6 (by decide) lk_29 (fun _ h9 => h9) rfl dX2_best_40 ?_
          refine lv_iload hx hb dX2_best_43 (lv_at hl 4 rfl) ?_
          obtain ⟨hi, hf⟩ := gIx_some hf
          refine va_iald hx hb hK hP 3 1 rfl rfl hi dX2_best_45 ?_
          refine lv_i2l (v := ((weight (y4_20 : Int32).toNatClampNeg) : Int32).toInt64) hx hb dX2_best_46 rfl ?_
          refine lv_bipush (v := 24) hx hb dX2_best_47 (by decide) ?_
          refine lv_lshl (v := ((((weight (y4_20 : Int32).toNatClampNeg) : Int32).toInt64 : Int64) <<< ((24 : Int32).toInt64 &&& 63))) hx hb dX2_best_49 rfl ?_
          refine lv_lconst (v := 1) hx hb dX2_best_50 (by decide) ?_
          refine lv_iload hx hb dX2_best_51 (lv_at hl 4 rfl) ?_
          refine lv_lshl (v := ((1 : Int64) <<< ((y4_20 : Int32).toInt64 &&& 63))) hx hb dX2_best_53 rfl ?_
          refine lv_ladd hx hb dX2_best_54 ?_
          refine lv_lstore (lv' := [(5, .long (((((weight (y4_20 : Int32).toNatClampNeg) : Int32).toInt64 : Int64) <<< ((24 : Int32).toInt64 &&& 63)) + ((1 : Int64) <<< ((y4_20 : Int32).toInt64 &&& 63)))), (0, .ref a0), (1, .ref a2), (2, .int x2), (3, .int x3), (4, .int y4_20)]) hx hb dX2_best_55 hl (by decide) rfl (fun ls hl => ?_)
          refine lv_aload_n hx hb dX2_best_57 rfl (lv_at hl 1 rfl) ?_
          refine lv_lload hx hb dX2_best_58 (lv_at hl 0 rfl) ?_
          refine lv_aload_n hx hb dX2_best_60 rfl (lv_at hl 2 rfl) ?_
          refine va_get (D := D) (ci := 5) (v := .ref a10) (C := RX5) (T := TX5) (N := 14) hx hb hts in_X5 hown hK hP 2 rfl rfl 7 (by decide) lk_33 (fun _ h9 => h9) rfl dX2_best_61 ?_
          refine lv_iload hx hb dX2_best_64 (lv_at hl 5 rfl) ?_
          obtain ⟨hi, hf⟩ := gIx_some hf
          refine va_iald hx hb hK hP 4 1 rfl rfl hi dX2_best_66 ?_
          obtain ⟨lightest_2, hc, hf⟩ := ob1_some hf
          refine g_VV (As := [.long (((((weight (y4_20 : Int32).toNatClampNeg) : Int32).toInt64 : Int64) <<< ((24 : Int32).toInt64 &&& 63)) + ((1 : Int64) <<< ((y4_20 : Int32).toInt64 &&& 63))), .int (priority (y4_20 : Int32).toNatClampNeg)]) (rest := []) (ws' := (w_X2_best kc a0 a1 a2 a3 a4 a5 a6 a7 a8 a9 a10 lightest_2 regions balloons letters loft start seed weight priority)) ⟨hx, hb, hml, hown, hts⟩ hN hK hP hD hS hA (c_X2_allow l D kc N a0 a1 lightest_20 (((((weight (y4_20 : Int32).toNatClampNeg) : Int32).toInt64 : Int64) <<< ((24 : Int32).toInt64 &&& 63)) + ((1 : Int64) <<< ((y4_20 : Int32).toInt64 &&& 63))) (priority (y4_20 : Int32).toNatClampNeg) lightest_2 hc) (cwV 2 hts gX2_best_X2_allow rfl rfl rfl (by decide +kernel) ⟨Nat.le_of_ble_eq_true rfl, Nat.le_of_ble_eq_true rfl⟩) [0, 1] [2, 3, 4] [3, 4, 0, 1, 2] (by exact ⟨rfl, rfl, by decide, rfl⟩) 0 2 rfl rfl rfl rfl hl.1 rfl (Nat.le_of_ble_eq_true rfl) dX2_best_67 ⟨Nat.le_refl _, Nat.le_refl _⟩ (fun H locs hP hD hS => ?_)
          refine lv_iinc (v := (y4_20 + 1)) (lv' := [(4, .int (y4_20 + 1)), (5, .long (((((weight (y4_20 : Int32).toNatClampNeg) : Int32).toInt64 : Int64) <<< ((24 : Int32).toInt64 &&& 63)) + ((1 : Int64) <<< ((y4_20 : Int32).toInt64 &&& 63)))), (0, .ref a0), (1, .ref a2), (2, .int x2), (3, .int x3)]) hx hb dX2_best_70 hl (k := 5) rfl (by rfl) (by decide) rfl (fun ls hl => ?_)
          refine lv_goto (tgt := 20) hx hb dX2_best_73 (by decide) ?_
          exact ih _ _ _ _ hf hk _ _ _ hP hD hS (lv_sub hl [2, 3, 4, 5, 0] rfl)
  obtain ⟨y4_20o, lightest_20o, hc, hf⟩ := ob2_some hf
  refine L20 N _ _ _ _ hc (fun H locs ls hP hD hS hl => ?_) _ _ _ hP hD hS (lv_sub hl [1, 2, 3, 4, 0] rfl)
  refine lv_sipush (v := 216) hx hb dX2_best_76 (by decide) ?_
  refine lv_istore (lv' := [(4, .int 216), (0, .ref a0), (1, .ref a2), (2, .int x2), (3, .int x3)]) hx hb dX2_best_79 hl (by decide) rfl (fun ls hl => ?_)
  have L81 : ∀ (n : Nat) (y4_81 : Int32), f_X2_best_81 N x3 lightest_20o n y4_81 = some (r_, lightest') → ∀ (H : Heap) (locs : List Loc) (ls : Array Slot), va_P D vwCl (w_X2_best kc a0 a1 a2 a3 a4 a5 a6 a7 a8 a9 a10 lightest_20o regions balloons letters loft start seed weight priority) H → va_D A (w_X2_best kc a0 a1 a2 a3 a4 a5 a6 a7 a8 a9 a10 lightest_20o regions balloons letters loft start seed weight priority) → va_S A s.heap H locs → lv_has ls 7 [(0, .ref a0), (1, .ref a2), (2, .int x2), (3, .int x3), (4, .int y4_81)] → W p l e ({ frames := 2, cells := 0, slots := 0, locals := 47 }) s m (([.ref a0, .ref a2, .int x2, .int x3] : List Value).toArray) below meth c H locs 0 0 Q (F0 m 81 ls []) := by
    clear hf
    intro n
    induction n with
    | zero => intro _ hf; rw [f_X2_best_81.eq_1] at hf; cases hf
    | succ n ih =>
      intro y4_81 hf H locs ls hP hD hS hl
      rw [f_X2_best_81.eq_2] at hf
      refine lv_iload hx hb dX2_best_81 (lv_at hl 4 rfl) ?_
      refine lv_if_le (tgt := 121) hx hb dX2_best_83 (by decide) (fun hc => ?_) (fun hc => ?_)
      · have hf := o_t hc hf
        refine lv_iconst (v := 0) hx hb dX2_best_121 (by decide) ?_
        cases hf
        exact kR _ _ _ _ hP hD hS dX2_best_122
      · have hf := o_f hc hf
        refine lv_aload_n hx hb dX2_best_86 rfl (lv_at hl 0 rfl) ?_
        refine va_get (D := D) (ci := 2) (v := .ref a1) (C := RX2) (T := TX2) (N := 1) hx hb hts in_X2 hown hK hP 0 rfl rfl 0 (by decide) lk_11 (fun _ h9 => h9) rfl dX2_best_87 ?_
        refine lv_iload hx hb dX2_best_90 (lv_at hl 4 rfl) ?_
        obtain ⟨hi, hf⟩ := gIx_some hf
        refine va_lald hx hb hK hP 1 2 rfl rfl hi dX2_best_92 ?_
        refine lv_bipush (v := 24) hx hb dX2_best_93 (by decide) ?_
        refine lv_lshr (v := (((lightest_20o (y4_81 : Int32).toNatClampNeg) : Int64) >>> ((24 : Int32).toInt64 &&& 63))) hx hb dX2_best_95 rfl ?_
        refine lv_iload_n hx hb dX2_best_96 rfl (lv_at hl 3 rfl) ?_
        refine lv_i2l (v := (x3 : Int32).toInt64) hx hb dX2_best_97 rfl ?_
        refine W.lcmp hx hb dX2_best_98 ?_
        refine lv_if_gt (tgt := 115) hx hb dX2_best_99 (by decide) (fun hc => ?_) (fun hc => ?_)
        · have hf := o_t hc hf
          refine lv_iinc (v := (y4_81 + (-1))) (lv' := [(4, .int (y4_81 + (-1))), (0, .ref a0), (1, .ref a2), (2, .int x2), (3, .int x3)]) hx hb dX2_best_115 hl (k := 4) rfl (by rfl) (by decide) rfl (fun ls hl => ?_)
          refine lv_goto (tgt := 81) hx hb dX2_best_118 (by decide) ?_
          exact ih _ hf _ _ _ hP hD hS (lv_sub hl [1, 2, 3, 4, 0] rfl)
        · have hf := o_f hc hf
          refine lv_aload_n hx hb dX2_best_102 rfl (lv_at hl 0 rfl) ?_
          refine va_get (D := D) (ci := 2) (v := .ref a1) (C := RX2) (T := TX2) (N := 1) hx hb hts in_X2 hown hK hP 0 rfl rfl 0 (by decide) lk_11 (fun _ h9 => h9) rfl dX2_best_103 ?_
          refine lv_iload hx hb dX2_best_106 (lv_at hl 4 rfl) ?_
          obtain ⟨hi, hf⟩ := gIx_some hf
          refine va_lald hx hb hK hP 1 2 rfl rfl hi dX2_best_108 ?_
          refine lv_ldc2 (v := 16777215) hx hb hown (hts (.constantLong RX2 40 (16777215)) (by decide +kernel)) dX2_best_109 ?_
          refine lv_land hx hb dX2_best_112 ?_
          refine lv_l2i (v := (((lightest_20o (y4_81 : Int32).toNatClampNeg) &&& 16777215) : Int64).toInt32) hx hb dX2_best_113 rfl ?_
          cases hf
          exact kR _ _ _ _ hP hD hS dX2_best_114
  exact L81 N _ hf _ _ _ hP hD hS (lv_sub hl [1, 2, 3, 4, 0] rfl)
