abbrev w_X6_begin (kc : Nat → ClassId) (a0 a1 a2 a3 a4 a5 a6 a7 a8 a9 a10 a11 a12 a13 a14 a15 a16 a17 a18 a19 a20 a21 a22 a23 a24 a25 a26 a27 : Nat) (day : Int32) (wind : Int32) (loft : Int32) (lost : Int32) (launchCount : Int32) (drawState : Int64) (count : Int32) (balloonState : Nat → Int32) (balloonRegion : Nat → Int32) (cargo : Nat → Int32) (letters : Nat → Int32) (regions : Int32) (balloons : Int32) (letters2 : Int32) (loft2 : Int32) (start : Int32) (seed : Int32) (answeredOn : Nat → Int32) (homing : Nat → Int32) (due : Nat → Int32) (count2 : Int32) (turnCount : Int32) : va_W := [(a0, .inr (6, [.ref a1, .ref a2, .ref a3, .ref a4, .ref a5, .ref a6, .int day, .int wind, .int loft, .int lost, .ref a7, .ref a8, .ref a9, .int launchCount, .long drawState])), (a1, .inr (1, [.ref a10, .ref a11, .ref a12, .int count])), (a2, .inl (kc 1, 10, .inl balloonState)), (a3, .inl (kc 1, 10, .inl balloonRegion)), (a4, .inl (kc 1, 10, .inl cargo)), (a5, .inl (kc 1, 4, .inl letters)), (a13, .inr (5, [.ref a14, .ref a15, .ref a16, .ref a17, .ref a18, .ref a19, .ref a20, .ref a21, .int regions, .int balloons, .int letters2, .int loft2, .int start, .int seed])), (a6, .inl (kc 1, 24, .inl answeredOn)), (a7, .inl (kc 1, 10, .inl homing)), (a8, .inl (kc 1, 10, .inl due)), (a14, .inr (7, [.int count2, .int turnCount, .ref a22, .ref a23, .ref a24, .ref a25, .ref a26, .ref a27]))]
set_option maxHeartbeats 4000000 in
set_option maxRecDepth 100000 in
theorem c_X6_begin (l : Launch) (D : va_G) (kc : Nat → ClassId) (N : Nat) (a0 a1 a2 a3 a4 a5 a6 a7 a8 a9 a10 a11 a12 a13 a14 a15 a16 a17 a18 a19 a20 a21 a22 a23 a24 a25 a26 a27 : Nat) (day : Int32) (wind : Int32) (loft : Int32) (lost : Int32) (launchCount : Int32) (drawState : Int64) (count : Int32) (balloonState : Nat → Int32) (balloonRegion : Nat → Int32) (cargo : Nat → Int32) (letters : Nat → Int32) (regions : Int32) (balloons : Int32) (letters2 : Int32) (loft2 : Int32) (start : Int32) (seed : Int32) (answeredOn : Nat → Int32) (homing : Nat → Int32) (due : Nat → Int32) (count2 : Int32) (turnCount : Int32) (day' : Int32) (wind' : Int32) (loft' : Int32) (lost' : Int32) (launchCount' : Int32) (drawState' : Int64) (count' : Int32) (balloonState' : Nat → Int32) (balloonRegion' : Nat → Int32) (cargo' : Nat → Int32) (letters' : Nat → Int32) (answeredOn' : Nat → Int32) (homing' : Nat → Int32) (due' : Nat → Int32) (hf : f_X6_begin N balloonState balloonRegion cargo letters letters2 loft2 start seed answeredOn homing due count2 = some (day', wind', loft', lost', launchCount', drawState', count', balloonState', balloonRegion', cargo', letters', answeredOn', homing', due')) : MV l yX6_begin wsX6_begin ({ frames := 1, cells := 0, slots := 0, locals := 23 }) D kc [.ref a0, .ref a13] (w_X6_begin kc a0 a1 a2 a3 a4 a5 a6 a7 a8 a9 a10 a11 a12 a13 a14 a15 a16 a17 a18 a19 a20 a21 a22 a23 a24 a25 a26 a27 day wind loft lost launchCount drawState count balloonState balloonRegion cargo letters regions balloons letters2 loft2 start seed answeredOn homing due count2 turnCount) (w_X6_begin kc a0 a1 a2 a3 a4 a5 a6 a7 a8 a9 a10 a11 a12 a13 a14 a15 a16 a17 a18 a19 a20 a21 a22 a23 a24 a25 a26 a27 day' wind' loft' lost' launchCount' drawState' count' balloonState' balloonRegion' cargo' letters' regions balloons letters2 loft2 start seed answeredOn' homing' due' count2 turnCount) := by
  refine gM_V (cc := cX6_begin) (maxL := 2) (by decide) rfl (Nat.le_of_ble_eq_true rfl) ?_
  intro p e s m below meth c A ls Q hx hb hml hown hts hN hK hP hD hA hl kR
  have hS : va_S A s.heap s.heap [] := va_S.rf
  have hl : lv_has ls 2 [(0, .ref a0), (1, .ref a13)] := hl
  have in_X6 : ∀ w ∈ u_ws RX6 TX6 15, w ∈ wsX6_begin := by decide +kernel
  have lk_12 := hts (.fieldLink RX6 12 "BalloonMail$State" "journal" "LBalloonMail$Journal;") (by decide +kernel)
  have in_X1 : ∀ w ∈ u_ws RX1 TX1 4, w ∈ wsX6_begin := by decide +kernel
  have lk_47 := hts (.fieldLink RX6 47 "BalloonMail$Journal" "count" "I") (by decide +kernel)
  have lk_18 := hts (.fieldLink RX6 18 "BalloonMail$State" "balloonState" "[I") (by decide +kernel)
  have lk_22 := hts (.fieldLink RX6 22 "BalloonMail$State" "balloonRegion" "[I") (by decide +kernel)
  have lk_25 := hts (.fieldLink RX6 25 "BalloonMail$State" "cargo" "[I") (by decide +kernel)
  have lk_28 := hts (.fieldLink RX6 28 "BalloonMail$State" "letters" "[I") (by decide +kernel)
  have in_X5 : ∀ w ∈ u_ws RX5 TX5 14, w ∈ wsX6_begin := by decide +kernel
  have lk_56 := hts (.fieldLink RX6 56 "BalloonMail$Siege" "letters" "I") (by decide +kernel)
  have lk_31 := hts (.fieldLink RX6 31 "BalloonMail$State" "answeredOn" "[I") (by decide +kernel)
  have lk_38 := hts (.fieldLink RX6 38 "BalloonMail$State" "homing" "[I") (by decide +kernel)
  have lk_41 := hts (.fieldLink RX6 41 "BalloonMail$State" "due" "[I") (by decide +kernel)
  have lk_60 := hts (.fieldLink RX6 60 "BalloonMail$State" "launchCount" "I") (by decide +kernel)
  have lk_63 := hts (.fieldLink RX6 63 "BalloonMail$State" "day" "I") (by decide +kernel)
  have lk_66 := hts (.fieldLink RX6 66 "BalloonMail$Siege" "winds" "LBalloonMail$Winds;") (by decide +kernel)
  have in_X7 : ∀ w ∈ u_ws RX7 TX7 8, w ∈ wsX6_begin := by decide +kernel
  have lk_70 := hts (.fieldLink RX6 70 "BalloonMail$Winds" "count" "I") (by decide +kernel)
  have lk_34 := hts (.fieldLink RX6 34 "BalloonMail$State" "wind" "I") (by decide +kernel)
  have lk_76 := hts (.fieldLink RX6 76 "BalloonMail$Siege" "loft" "I") (by decide +kernel)
  have lk_79 := hts (.fieldLink RX6 79 "BalloonMail$State" "loft" "I") (by decide +kernel)
  have lk_80 := hts (.fieldLink RX6 80 "BalloonMail$State" "lost" "I") (by decide +kernel)
  have lk_83 := hts (.fieldLink RX6 83 "BalloonMail$Siege" "seed" "I") (by decide +kernel)
  have lk_86 := hts (.fieldLink RX6 86 "BalloonMail$State" "drawState" "J") (by decide +kernel)
  have lk_73 := hts (.fieldLink RX6 73 "BalloonMail$Siege" "start" "I") (by decide +kernel)
  have J110 : ∀ (day_110 : Int32) (launchCount_110 : Int32) (count_110 : Int32) (balloonState_110 : Nat → Int32) (balloonRegion_110 : Nat → Int32) (cargo_110 : Nat → Int32) (letters_110 : Nat → Int32) (answeredOn_110 : Nat → Int32) (homing_110 : Nat → Int32) (due_110 : Nat → Int32) (k1_110 : Int32), f_X6_begin_j110 N loft2 seed day_110 launchCount_110 count_110 balloonState_110 balloonRegion_110 cargo_110 letters_110 answeredOn_110 homing_110 due_110 k1_110 = some (day', wind', loft', lost', launchCount', drawState', count', balloonState', balloonRegion', cargo', letters', answeredOn', homing', due') → ∀ (H : Heap) (locs : List Loc) (ls : Array Slot), va_P D vwCl (w_X6_begin kc a0 a1 a2 a3 a4 a5 a6 a7 a8 a9 a10 a11 a12 a13 a14 a15 a16 a17 a18 a19 a20 a21 a22 a23 a24 a25 a26 a27 day_110 wind loft lost launchCount_110 drawState count_110 balloonState_110 balloonRegion_110 cargo_110 letters_110 regions balloons letters2 loft2 start seed answeredOn_110 homing_110 due_110 count2 turnCount) H → va_D A (w_X6_begin kc a0 a1 a2 a3 a4 a5 a6 a7 a8 a9 a10 a11 a12 a13 a14 a15 a16 a17 a18 a19 a20 a21 a22 a23 a24 a25 a26 a27 day_110 wind loft lost launchCount_110 drawState count_110 balloonState_110 balloonRegion_110 cargo_110 letters_110 regions balloons letters2 loft2 start seed answeredOn_110 homing_110 due_110 count2 turnCount) → va_S A s.heap H locs → lv_has ls 2 [(0, .ref a0), (1, .ref a13)] → W p l e ({ frames := 1, cells := 0, slots := 0, locals := 23 }) s m (([.ref a0, .ref a13] : List Value).toArray) below meth c H locs 0 0 Q (F0 m 110 ls [.int k1_110, .ref a0]) := by
    clear hf
    intro day_110 launchCount_110 count_110 balloonState_110 balloonRegion_110 cargo_110 letters_110 answeredOn_110 homing_110 due_110 k1_110 hf H locs ls hP hD hS hl
    unfold f_X6_begin_j110 at hf
    refine va_put (D := D) (ci := 6) (v := .int k1_110) (ty := .int) (C := RX6) (T := TX6) (N := 15) hx hb hts in_X6 tyX6 tyX6_ok nmX6 hown hK hP hD hS 0 rfl rfl 7 (by decide) lk_34 (fun _ h9 => h9) rfl (by decide +kernel) rfl rfl (Nat.le_of_ble_eq_true rfl) dX6_begin_110 (fun H locs hP hD hS => ?_)
    have hP : va_P D vwCl (w_X6_begin kc a0 a1 a2 a3 a4 a5 a6 a7 a8 a9 a10 a11 a12 a13 a14 a15 a16 a17 a18 a19 a20 a21 a22 a23 a24 a25 a26 a27 day_110 k1_110 loft lost launchCount_110 drawState count_110 balloonState_110 balloonRegion_110 cargo_110 letters_110 regions balloons letters2 loft2 start seed answeredOn_110 homing_110 due_110 count2 turnCount) H := hP
    have hD : va_D A (w_X6_begin kc a0 a1 a2 a3 a4 a5 a6 a7 a8 a9 a10 a11 a12 a13 a14 a15 a16 a17 a18 a19 a20 a21 a22 a23 a24 a25 a26 a27 day_110 k1_110 loft lost launchCount_110 drawState count_110 balloonState_110 balloonRegion_110 cargo_110 letters_110 regions balloons letters2 loft2 start seed answeredOn_110 homing_110 due_110 count2 turnCount) := hD
    refine lv_aload_n hx hb dX6_begin_113 rfl (lv_at hl 0 rfl) ?_
    refine lv_aload_n hx hb dX6_begin_114 rfl (lv_at hl 1 rfl) ?_
    refine va_get (D := D) (ci := 5) (v := .int loft2) (C := RX5) (T := TX5) (N := 14) hx hb hts in_X5 hown hK hP 6 rfl rfl 11 (by decide) lk_76 (fun _ h9 => h9) rfl dX6_begin_115 ?_
    refine va_put (D := D) (ci := 6) (v := .int loft2) (ty := .int) (C := RX6) (T := TX6) (N := 15) hx hb hts in_X6 tyX6 tyX6_ok nmX6 hown hK hP hD hS 0 rfl rfl 8 (by decide) lk_79 (fun _ h9 => h9) rfl (by decide +kernel) rfl rfl (Nat.le_of_ble_eq_true rfl) dX6_begin_118 (fun H locs hP hD hS => ?_)
    have hP : va_P D vwCl (w_X6_begin kc a0 a1 a2 a3 a4 a5 a6 a7 a8 a9 a10 a11 a12 a13 a14 a15 a16 a17 a18 a19 a20 a21 a22 a23 a24 a25 a26 a27 day_110 k1_110 loft2 lost launchCount_110 drawState count_110 balloonState_110 balloonRegion_110 cargo_110 letters_110 regions balloons letters2 loft2 start seed answeredOn_110 homing_110 due_110 count2 turnCount) H := hP
    have hD : va_D A (w_X6_begin kc a0 a1 a2 a3 a4 a5 a6 a7 a8 a9 a10 a11 a12 a13 a14 a15 a16 a17 a18 a19 a20 a21 a22 a23 a24 a25 a26 a27 day_110 k1_110 loft2 lost launchCount_110 drawState count_110 balloonState_110 balloonRegion_110 cargo_110 letters_110 regions balloons letters2 loft2 start seed answeredOn_110 homing_110 due_110 count2 turnCount) := hD
    refine lv_aload_n hx hb dX6_begin_121 rfl (lv_at hl 0 rfl) ?_
    refine lv_iconst (v := 0) hx hb dX6_begin_122 (by decide) ?_
    refine va_put (D := D) (ci := 6) (v := .int 0) (ty := .int) (C := RX6) (T := TX6) (N := 15) hx hb hts in_X6 tyX6 tyX6_ok nmX6 hown hK hP hD hS 0 rfl rfl 9 (by decide) lk_80 (fun _ h9 => h9) rfl (by decide +kernel) rfl rfl (Nat.le_of_ble_eq_true rfl) dX6_begin_123 (fun H locs hP hD hS => ?_)
    have hP : va_P D vwCl (w_X6_begin kc a0 a1 a2 a3 a4 a5 a6 a7 a8 a9 a10 a11 a12 a13 a14 a15 a16 a17 a18 a19 a20 a21 a22 a23 a24 a25 a26 a27 day_110 k1_110 loft2 0 launchCount_110 drawState count_110 balloonState_110 balloonRegion_110 cargo_110 letters_110 regions balloons letters2 loft2 start seed answeredOn_110 homing_110 due_110 count2 turnCount) H := hP
    have hD : va_D A (w_X6_begin kc a0 a1 a2 a3 a4 a5 a6 a7 a8 a9 a10 a11 a12 a13 a14 a15 a16 a17 a18 a19 a20 a21 a22 a23 a24 a25 a26 a27 day_110 k1_110 loft2 0 launchCount_110 drawState count_110 balloonState_110 balloonRegion_110 cargo_110 letters_110 regions balloons letters2 loft2 start seed answeredOn_110 homing_110 due_110 count2 turnCount) := hD
    refine lv_aload_n hx hb dX6_begin_126 rfl (lv_at hl 0 rfl) ?_
    refine lv_aload_n hx hb dX6_begin_127 rfl (lv_at hl 1 rfl) ?_
    refine va_get (D := D) (ci := 5) (v := .int seed) (C := RX5) (T := TX5) (N := 14) hx hb hts in_X5 hown hK hP 6 rfl rfl 13 (by decide) lk_83 (fun _ h9 => h9) rfl dX6_begin_128 ?_
    refine lv_i2l (v := (seed : Int32).toInt64) hx hb dX6_begin_131 rfl ?_
    refine va_put (D := D) (ci := 6) (v := .long ((seed : Int32).toInt64)) (ty := .long) (C := RX6) (T := TX6) (N := 15) hx hb hts in_X6 tyX6 tyX6_ok nmX6 hown hK hP hD hS 0 rfl rfl 14 (by decide) lk_86 (fun _ h9 => h9) rfl (by decide +kernel) rfl rfl (Nat.le_of_ble_eq_true rfl) dX6_begin_132 (fun H locs hP hD hS => ?_)
    have hP : va_P D vwCl (w_X6_begin kc a0 a1 a2 a3 a4 a5 a6 a7 a8 a9 a10 a11 a12 a13 a14 a15 a16 a17 a18 a19 a20 a21 a22 a23 a24 a25 a26 a27 day_110 k1_110 loft2 0 launchCount_110 ((seed : Int32).toInt64) count_110 balloonState_110 balloonRegion_110 cargo_110 letters_110 regions balloons letters2 loft2 start seed answeredOn_110 homing_110 due_110 count2 turnCount) H := hP
    have hD : va_D A (w_X6_begin kc a0 a1 a2 a3 a4 a5 a6 a7 a8 a9 a10 a11 a12 a13 a14 a15 a16 a17 a18 a19 a20 a21 a22 a23 a24 a25 a26 a27 day_110 k1_110 loft2 0 launchCount_110 ((seed : Int32).toInt64) count_110 balloonState_110 balloonRegion_110 cargo_110 letters_110 regions balloons letters2 loft2 start seed answeredOn_110 homing_110 due_110 count2 turnCount) := hD
    cases hf
    exact kR _ _ _ _ hP hD hS dX6_begin_135
  unfold f_X6_begin at hf
  refine lv_aload_n hx hb dX6_begin_0 rfl (lv_at hl 0 rfl) ?_
  refine va_get (D := D) (ci := 6) (v := .ref a1) (C := RX6) (T := TX6) (N := 15) hx hb hts in_X6 hown hK hP 0 rfl rfl 0 (by decide) lk_12 (fun _ h9 => h9) rfl dX6_begin_1 ?_
  refine lv_iconst (v := 0) hx hb dX6_begin_4 (by decide) ?_
  refine va_put (D := D) (ci := 1) (v := .int 0) (ty := .int) (C := RX1) (T := TX1) (N := 4) hx hb hts in_X1 tyX1 tyX1_ok nmX1 hown hK hP hD hS 1 rfl rfl 3 (by decide) lk_47 (fun _ h9 => h9) rfl (by decide +kernel) rfl rfl (Nat.le_of_ble_eq_true rfl) dX6_begin_5 (fun H locs hP hD hS => ?_)
  have hP : va_P D vwCl (w_X6_begin kc a0 a1 a2 a3 a4 a5 a6 a7 a8 a9 a10 a11 a12 a13 a14 a15 a16 a17 a18 a19 a20 a21 a22 a23 a24 a25 a26 a27 day wind loft lost launchCount drawState 0 balloonState balloonRegion cargo letters regions balloons letters2 loft2 start seed answeredOn homing due count2 turnCount) H := hP
  have hD : va_D A (w_X6_begin kc a0 a1 a2 a3 a4 a5 a6 a7 a8 a9 a10 a11 a12 a13 a14 a15 a16 a17 a18 a19 a20 a21 a22 a23 a24 a25 a26 a27 day wind loft lost launchCount drawState 0 balloonState balloonRegion cargo letters regions balloons letters2 loft2 start seed answeredOn homing due count2 turnCount) := hD
  refine lv_aload_n hx hb dX6_begin_8 rfl (lv_at hl 0 rfl) ?_
  refine va_get (D := D) (ci := 6) (v := .ref a2) (C := RX6) (T := TX6) (N := 15) hx hb hts in_X6 hown hK hP 0 rfl rfl 1 (by decide) lk_18 (fun _ h9 => h9) rfl dX6_begin_9 ?_
  refine lv_iconst (v := 0) hx hb dX6_begin_12 (by decide) ?_
  obtain ⟨balloonState_1, hc, hf⟩ := ob1_some hf
  refine g_SV (As := [.ref a2, .int 0]) (rest := []) (ws' := (w_X6_begin kc a0 a1 a2 a3 a4 a5 a6 a7 a8 a9 a10 a11 a12 a13 a14 a15 a16 a17 a18 a19 a20 a21 a22 a23 a24 a25 a26 a27 day wind loft lost launchCount drawState 0 balloonState_1 balloonRegion cargo letters regions balloons letters2 loft2 start seed answeredOn homing due count2 turnCount)) ⟨hx, hb, hml, hown, hts⟩ hN hK hP hD hS hA (c_J7_fill_53178 l D kc N a2 10 balloonState 0 balloonState_1 hc) (va_cwS 2 hts gX6_begin_J7_fill_53178 rfl rfl rfl (by decide +kernel) ⟨Nat.le_of_ble_eq_true rfl, Nat.le_of_ble_eq_true rfl⟩) [2] [0, 1, 3, 4, 5, 6, 7, 8, 9, 10] [0, 1, 10, 2, 3, 4, 5, 6, 7, 8, 9] (by exact ⟨rfl, rfl, by decide, rfl⟩) rfl hl.1 rfl (Nat.le_of_ble_eq_true rfl) dX6_begin_13 ⟨Nat.le_refl _, Nat.le_refl _⟩ (fun H locs hP hD hS => ?_)
  refine lv_aload_n hx hb dX6_begin_16 rfl (lv_at hl 0 rfl) ?_
  refine va_get (D := D) (ci := 6) (v := .ref a3) (C := RX6) (T := TX6) (N := 15) hx hb hts in_X6 hown hK hP 0 rfl rfl 2 (by decide) lk_22 (fun _ h9 => h9) rfl dX6_begin_17 ?_
  refine lv_bipush (v := (-2)) hx hb dX6_begin_20 (by decide) ?_
  obtain ⟨balloonRegion_2, hc, hf⟩ := ob1_some hf
  refine g_SV (As := [.ref a3, .int (-2)]) (rest := []) (ws' := (w_X6_begin kc a0 a1 a2 a3 a4 a5 a6 a7 a8 a9 a10 a11 a12 a13 a14 a15 a16 a17 a18 a19 a20 a21 a22 a23 a24 a25 a26 a27 day wind loft lost launchCount drawState 0 balloonState_1 balloonRegion_2 cargo letters regions balloons letters2 loft2 start seed answeredOn homing due count2 turnCount)) ⟨hx, hb, hml, hown, hts⟩ hN hK hP hD hS hA (c_J7_fill_53178 l D kc N a3 10 balloonRegion (-2) balloonRegion_2 hc) (va_cwS 2 hts gX6_begin_J7_fill_53178 rfl rfl rfl (by decide +kernel) ⟨Nat.le_of_ble_eq_true rfl, Nat.le_of_ble_eq_true rfl⟩) [3] [0, 1, 2, 4, 5, 6, 7, 8, 9, 10] [0, 1, 2, 10, 3, 4, 5, 6, 7, 8, 9] (by exact ⟨rfl, rfl, by decide, rfl⟩) rfl hl.1 rfl (Nat.le_of_ble_eq_true rfl) dX6_begin_22 ⟨Nat.le_refl _, Nat.le_refl _⟩ (fun H locs hP hD hS => ?_)
  refine lv_aload_n hx hb dX6_begin_25 rfl (lv_at hl 0 rfl) ?_
  refine va_get (D := D) (ci := 6) (v := .ref a4) (C := RX6) (T := TX6) (N := 15) hx hb hts in_X6 hown hK hP 0 rfl rfl 3 (by decide) lk_25 (fun _ h9 => h9) rfl dX6_begin_26 ?_
  refine lv_iconst (v := 0) hx hb dX6_begin_29 (by decide) ?_
  obtain ⟨cargo_3, hc, hf⟩ := ob1_some hf
  refine g_SV (As := [.ref a4, .int 0]) (rest := []) (ws' := (w_X6_begin kc a0 a1 a2 a3 a4 a5 a6 a7 a8 a9 a10 a11 a12 a13 a14 a15 a16 a17 a18 a19 a20 a21 a22 a23 a24 a25 a26 a27 day wind loft lost launchCount drawState 0 balloonState_1 balloonRegion_2 cargo_3 letters regions balloons letters2 loft2 start seed answeredOn homing due count2 turnCount)) ⟨hx, hb, hml, hown, hts⟩ hN hK hP hD hS hA (c_J7_fill_53178 l D kc N a4 10 cargo 0 cargo_3 hc) (va_cwS 2 hts gX6_begin_J7_fill_53178 rfl rfl rfl (by decide +kernel) ⟨Nat.le_of_ble_eq_true rfl, Nat.le_of_ble_eq_true rfl⟩) [4] [0, 1, 2, 3, 5, 6, 7, 8, 9, 10] [0, 1, 2, 3, 10, 4, 5, 6, 7, 8, 9] (by exact ⟨rfl, rfl, by decide, rfl⟩) rfl hl.1 rfl (Nat.le_of_ble_eq_true rfl) dX6_begin_30 ⟨Nat.le_refl _, Nat.le_refl _⟩ (fun H locs hP hD hS => ?_)
  refine lv_aload_n hx hb dX6_begin_33 rfl (lv_at hl 0 rfl) ?_
  refine va_get (D := D) (ci := 6) (v := .ref a5) (C := RX6) (T := TX6) (N := 15) hx hb hts in_X6 hown hK hP 0 rfl rfl 4 (by decide) lk_28 (fun _ h9 => h9) rfl dX6_begin_34 ?_
  refine lv_iconst (v := 0) hx hb dX6_begin_37 (by decide) ?_
  obtain ⟨letters_4, hc, hf⟩ := ob1_some hf
  refine g_SV (As := [.ref a5, .int 0]) (rest := []) (ws' := (w_X6_begin kc a0 a1 a2 a3 a4 a5 a6 a7 a8 a9 a10 a11 a12 a13 a14 a15 a16 a17 a18 a19 a20 a21 a22 a23 a24 a25 a26 a27 day wind loft lost launchCount drawState 0 balloonState_1 balloonRegion_2 cargo_3 letters_4 regions balloons letters2 loft2 start seed answeredOn homing due count2 turnCount)) ⟨hx, hb, hml, hown, hts⟩ hN hK hP hD hS hA (c_J7_fill_53178 l D kc N a5 4 letters 0 letters_4 hc) (va_cwS 2 hts gX6_begin_J7_fill_53178 rfl rfl rfl (by decide +kernel) ⟨Nat.le_of_ble_eq_true rfl, Nat.le_of_ble_eq_true rfl⟩) [5] [0, 1, 2, 3, 4, 6, 7, 8, 9, 10] [0, 1, 2, 3, 4, 10, 5, 6, 7, 8, 9] (by exact ⟨rfl, rfl, by decide, rfl⟩) rfl hl.1 rfl (Nat.le_of_ble_eq_true rfl) dX6_begin_38 ⟨Nat.le_refl _, Nat.le_refl _⟩ (fun H locs hP hD hS => ?_)
  refine lv_aload_n hx hb dX6_begin_41 rfl (lv_at hl 0 rfl) ?_
  refine va_get (D := D) (ci := 6) (v := .ref a5) (C := RX6) (T := TX6) (N := 15) hx hb hts in_X6 hown hK hP 0 rfl rfl 4 (by decide) lk_28 (fun _ h9 => h9) rfl dX6_begin_42 ?_
  refine lv_iconst (v := 0) hx hb dX6_begin_45 (by decide) ?_
  refine lv_iconst (v := 1) hx hb dX6_begin_46 (by decide) ?_
  refine lv_aload_n hx hb dX6_begin_47 rfl (lv_at hl 1 rfl) ?_
  refine va_get (D := D) (ci := 5) (v := .int letters2) (C := RX5) (T := TX5) (N := 14) hx hb hts in_X5 hown hK hP 6 rfl rfl 10 (by decide) lk_56 (fun _ h9 => h9) rfl dX6_begin_48 ?_
  refine lv_ishl hx hb dX6_begin_51 ?_
  refine lv_iconst (v := 1) hx hb dX6_begin_52 (by decide) ?_
  refine lv_isub hx hb dX6_begin_53 ?_
  obtain ⟨hi, hf⟩ := gIx_some hf
  refine va_iast hx hb hK hP hD hS 5 1 rfl rfl hi dX6_begin_54 (fun H locs hP hD hS => ?_)
  have hP : va_P D vwCl (w_X6_begin kc a0 a1 a2 a3 a4 a5 a6 a7 a8 a9 a10 a11 a12 a13 a14 a15 a16 a17 a18 a19 a20 a21 a22 a23 a24 a25 a26 a27 day wind loft lost launchCount drawState 0 balloonState_1 balloonRegion_2 cargo_3 (upd letters_4 (0 : Int32).toNatClampNeg (((1 : Int32) <<< ((letters2 : Int32) &&& 31)) - 1)) regions balloons letters2 loft2 start seed answeredOn homing due count2 turnCount) H := hP
  have hD : va_D A (w_X6_begin kc a0 a1 a2 a3 a4 a5 a6 a7 a8 a9 a10 a11 a12 a13 a14 a15 a16 a17 a18 a19 a20 a21 a22 a23 a24 a25 a26 a27 day wind loft lost launchCount drawState 0 balloonState_1 balloonRegion_2 cargo_3 (upd letters_4 (0 : Int32).toNatClampNeg (((1 : Int32) <<< ((letters2 : Int32) &&& 31)) - 1)) regions balloons letters2 loft2 start seed answeredOn homing due count2 turnCount) := hD
  refine lv_aload_n hx hb dX6_begin_55 rfl (lv_at hl 0 rfl) ?_
  refine va_get (D := D) (ci := 6) (v := .ref a6) (C := RX6) (T := TX6) (N := 15) hx hb hts in_X6 hown hK hP 0 rfl rfl 5 (by decide) lk_31 (fun _ h9 => h9) rfl dX6_begin_56 ?_
  refine lv_bipush (v := (-2)) hx hb dX6_begin_59 (by decide) ?_
  obtain ⟨answeredOn_5, hc, hf⟩ := ob1_some hf
  refine g_SV (As := [.ref a6, .int (-2)]) (rest := []) (ws' := (w_X6_begin kc a0 a1 a2 a3 a4 a5 a6 a7 a8 a9 a10 a11 a12 a13 a14 a15 a16 a17 a18 a19 a20 a21 a22 a23 a24 a25 a26 a27 day wind loft lost launchCount drawState 0 balloonState_1 balloonRegion_2 cargo_3 (upd letters_4 (0 : Int32).toNatClampNeg (((1 : Int32) <<< ((letters2 : Int32) &&& 31)) - 1)) regions balloons letters2 loft2 start seed answeredOn_5 homing due count2 turnCount)) ⟨hx, hb, hml, hown, hts⟩ hN hK hP hD hS hA (c_J7_fill_53178 l D kc N a6 24 answeredOn (-2) answeredOn_5 hc) (va_cwS 2 hts gX6_begin_J7_fill_53178 rfl rfl rfl (by decide +kernel) ⟨Nat.le_of_ble_eq_true rfl, Nat.le_of_ble_eq_true rfl⟩) [7] [0, 1, 2, 3, 4, 5, 6, 8, 9, 10] [0, 1, 2, 3, 4, 5, 6, 10, 7, 8, 9] (by exact ⟨rfl, rfl, by decide, rfl⟩) rfl hl.1 rfl (Nat.le_of_ble_eq_true rfl) dX6_begin_61 ⟨Nat.le_refl _, Nat.le_refl _⟩ (fun H locs hP hD hS => ?_)
  refine lv_aload_n hx hb dX6_begin_64 rfl (lv_at hl 0 rfl) ?_
  refine va_get (D := D) (ci := 6) (v := .ref a7) (C := RX6) (T := TX6) (N := 15) hx hb hts in_X6 hown hK hP 0 rfl rfl 10 (by decide) lk_38 (fun _ h9 => h9) rfl dX6_begin_65 ?_
  refine lv_iconst (v := 0) hx hb dX6_begin_68 (by decide) ?_
  obtain ⟨homing_6, hc, hf⟩ := ob1_some hf
  refine g_SV (As := [.ref a7, .int 0]) (rest := []) (ws' := (w_X6_begin kc a0 a1 a2 a3 a4 a5 a6 a7 a8 a9 a10 a11 a12 a13 a14 a15 a16 a17 a18 a19 a20 a21 a22 a23 a24 a25 a26 a27 day wind loft lost launchCount drawState 0 balloonState_1 balloonRegion_2 cargo_3 (upd letters_4 (0 : Int32).toNatClampNeg (((1 : Int32) <<< ((letters2 : Int32) &&& 31)) - 1)) regions balloons letters2 loft2 start seed answeredOn_5 homing_6 due count2 turnCount)) ⟨hx, hb, hml, hown, hts⟩ hN hK hP hD hS hA (c_J7_fill_53178 l D kc N a7 10 homing 0 homing_6 hc) (va_cwS 2 hts gX6_begin_J7_fill_53178 rfl rfl rfl (by decide +kernel) ⟨Nat.le_of_ble_eq_true rfl, Nat.le_of_ble_eq_true rfl⟩) [8] [0, 1, 2, 3, 4, 5, 6, 7, 9, 10] [0, 1, 2, 3, 4, 5, 6, 7, 10, 8, 9] (by exact ⟨rfl, rfl, by decide, rfl⟩) rfl hl.1 rfl (Nat.le_of_ble_eq_true rfl) dX6_begin_69 ⟨Nat.le_refl _, Nat.le_refl _⟩ (fun H locs hP hD hS => ?_)
  refine lv_aload_n hx hb dX6_begin_72 rfl (lv_at hl 0 rfl) ?_
  refine va_get (D := D) (ci := 6) (v := .ref a8) (C := RX6) (T := TX6) (N := 15) hx hb hts in_X6 hown hK hP 0 rfl rfl 11 (by decide) lk_41 (fun _ h9 => h9) rfl dX6_begin_73 ?_
  refine lv_iconst (v := 0) hx hb dX6_begin_76 (by decide) ?_
  obtain ⟨due_7, hc, hf⟩ := ob1_some hf
  refine g_SV (As := [.ref a8, .int 0]) (rest := []) (ws' := (w_X6_begin kc a0 a1 a2 a3 a4 a5 a6 a7 a8 a9 a10 a11 a12 a13 a14 a15 a16 a17 a18 a19 a20 a21 a22 a23 a24 a25 a26 a27 day wind loft lost launchCount drawState 0 balloonState_1 balloonRegion_2 cargo_3 (upd letters_4 (0 : Int32).toNatClampNeg (((1 : Int32) <<< ((letters2 : Int32) &&& 31)) - 1)) regions balloons letters2 loft2 start seed answeredOn_5 homing_6 due_7 count2 turnCount)) ⟨hx, hb, hml, hown, hts⟩ hN hK hP hD hS hA (c_J7_fill_53178 l D kc N a8 10 due 0 due_7 hc) (va_cwS 2 hts gX6_begin_J7_fill_53178 rfl rfl rfl (by decide +kernel) ⟨Nat.le_of_ble_eq_true rfl, Nat.le_of_ble_eq_true rfl⟩) [9] [0, 1, 2, 3, 4, 5, 6, 7, 8, 10] [0, 1, 2, 3, 4, 5, 6, 7, 8, 10, 9] (by exact ⟨rfl, rfl, by decide, rfl⟩) rfl hl.1 rfl (Nat.le_of_ble_eq_true rfl) dX6_begin_77 ⟨Nat.le_refl _, Nat.le_refl _⟩ (fun H locs hP hD hS => ?_)
  refine lv_aload_n hx hb dX6_begin_80 rfl (lv_at hl 0 rfl) ?_
  refine lv_iconst (v := 0) hx hb dX6_begin_81 (by decide) ?_
  refine va_put (D := D) (ci := 6) (v := .int 0) (ty := .int) (C := RX6) (T := TX6) (N := 15) hx hb hts in_X6 tyX6 tyX6_ok nmX6 hown hK hP hD hS 0 rfl rfl 13 (by decide) lk_60 (fun _ h9 => h9) rfl (by decide +kernel) rfl rfl (Nat.le_of_ble_eq_true rfl) dX6_begin_82 (fun H locs hP hD hS => ?_)
  have hP : va_P D vwCl (w_X6_begin kc a0 a1 a2 a3 a4 a5 a6 a7 a8 a9 a10 a11 a12 a13 a14 a15 a16 a17 a18 a19 a20 a21 a22 a23 a24 a25 a26 a27 day wind loft lost 0 drawState 0 balloonState_1 balloonRegion_2 cargo_3 (upd letters_4 (0 : Int32).toNatClampNeg (((1 : Int32) <<< ((letters2 : Int32) &&& 31)) - 1)) regions balloons letters2 loft2 start seed answeredOn_5 homing_6 due_7 count2 turnCount) H := hP
  have hD : va_D A (w_X6_begin kc a0 a1 a2 a3 a4 a5 a6 a7 a8 a9 a10 a11 a12 a13 a14 a15 a16 a17 a18 a19 a20 a21 a22 a23 a24 a25 a26 a27 day wind loft lost 0 drawState 0 balloonState_1 balloonRegion_2 cargo_3 (upd letters_4 (0 : Int32).toNatClampNeg (((1 : Int32) <<< ((letters2 : Int32) &&& 31)) - 1)) regions balloons letters2 loft2 start seed answeredOn_5 homing_6 due_7 count2 turnCount) := hD
  refine lv_aload_n hx hb dX6_begin_85 rfl (lv_at hl 0 rfl) ?_
  refine lv_iconst (v := 0) hx hb dX6_begin_86 (by decide) ?_
  refine va_put (D := D) (ci := 6) (v := .int 0) (ty := .int) (C := RX6) (T := TX6) (N := 15) hx hb hts in_X6 tyX6 tyX6_ok nmX6 hown hK hP hD hS 0 rfl rfl 6 (by decide) lk_63 (fun _ h9 => h9) rfl (by decide +kernel) rfl rfl (Nat.le_of_ble_eq_true rfl) dX6_begin_87 (fun H locs hP hD hS => ?_)
  have hP : va_P D vwCl (w_X6_begin kc a0 a1 a2 a3 a4 a5 a6 a7 a8 a9 a10 a11 a12 a13 a14 a15 a16 a17 a18 a19 a20 a21 a22 a23 a24 a25 a26 a27 0 wind loft lost 0 drawState 0 balloonState_1 balloonRegion_2 cargo_3 (upd letters_4 (0 : Int32).toNatClampNeg (((1 : Int32) <<< ((letters2 : Int32) &&& 31)) - 1)) regions balloons letters2 loft2 start seed answeredOn_5 homing_6 due_7 count2 turnCount) H := hP
  have hD : va_D A (w_X6_begin kc a0 a1 a2 a3 a4 a5 a6 a7 a8 a9 a10 a11 a12 a13 a14 a15 a16 a17 a18 a19 a20 a21 a22 a23 a24 a25 a26 a27 0 wind loft lost 0 drawState 0 balloonState_1 balloonRegion_2 cargo_3 (upd letters_4 (0 : Int32).toNatClampNeg (((1 : Int32) <<< ((letters2 : Int32) &&& 31)) - 1)) regions balloons letters2 loft2 start seed answeredOn_5 homing_6 due_7 count2 turnCount) := hD
  refine lv_aload_n hx hb dX6_begin_90 rfl (lv_at hl 0 rfl) ?_
  refine lv_aload_n hx hb dX6_begin_91 rfl (lv_at hl 1 rfl) ?_
  refine va_get (D := D) (ci := 5) (v := .ref a14) (C := RX5) (T := TX5) (N := 14) hx hb hts in_X5 hown hK hP 6 rfl rfl 0 (by decide) lk_66 (fun _ h9 => h9) rfl dX6_begin_92 ?_
  refine va_get (D := D) (ci := 7) (v := .int count2) (C := RX7) (T := TX7) (N := 8) hx hb hts in_X7 hown hK hP 10 rfl rfl 0 (by decide) lk_70 (fun _ h9 => h9) rfl dX6_begin_95 ?_
  refine lv_if_le (tgt := 108) hx hb dX6_begin_98 (by decide) (fun hc => ?_) (fun hc => ?_)
  · have hf := o_t hc hf
    refine lv_bipush (v := (-2)) hx hb dX6_begin_108 (by decide) ?_
    exact J110 _ _ _ _ _ _ _ _ _ _ _ hf _ _ _ hP hD hS (lv_sub hl [0, 1] rfl)
  · have hf := o_f hc hf
    refine lv_aload_n hx hb dX6_begin_101 rfl (lv_at hl 1 rfl) ?_
    refine va_get (D := D) (ci := 5) (v := .int start) (C := RX5) (T := TX5) (N := 14) hx hb hts in_X5 hown hK hP 6 rfl rfl 12 (by decide) lk_73 (fun _ h9 => h9) rfl dX6_begin_102 ?_
    refine lv_goto (tgt := 110) hx hb dX6_begin_105 (by decide) ?_
    exact J110 _ _ _ _ _ _ _ _ _ _ _ hf _ _ _ hP hD hS (lv_sub hl [0, 1] rfl)
abbrev w_X6_copyFrom (kc : Nat → ClassId) (a0 a1 a2 a3 a4 a5 a6 a7 a8 a9 a10 a11 a12 a13 a14 a15 a16 a17 a18 a19 a20 a21 a22 a23 a24 a25 : Nat) (day : Int32) (wind : Int32) (loft : Int32) (lost : Int32) (launchCount : Int32) (drawState : Int64) (day2 : Int32) (wind2 : Int32) (loft2 : Int32) (lost2 : Int32) (launchCount2 : Int32) (drawState2 : Int64) (count : Int32) (count2 : Int32) (kind : Nat → Int32) (kind2 : Nat → Int32) (number : Nat → Int32) (number2 : Nat → Int32) (day3 : Nat → Int32) (day4 : Nat → Int32) (balloonState : Nat → Int32) (balloonState2 : Nat → Int32) (balloonRegion : Nat → Int32) (balloonRegion2 : Nat → Int32) (cargo : Nat → Int32) (cargo2 : Nat → Int32) (letters : Nat → Int32) (letters2 : Nat → Int32) (answeredOn : Nat → Int32) (answeredOn2 : Nat → Int32) (homing : Nat → Int32) (homing2 : Nat → Int32) (due : Nat → Int32) (due2 : Nat → Int32) (launched : Nat → Int32) (launched2 : Nat → Int32) : va_W := [(a0, .inr (6, [.ref a1, .ref a2, .ref a3, .ref a4, .ref a5, .ref a6, .int day, .int wind, .int loft, .int lost, .ref a7, .ref a8, .ref a9, .int launchCount, .long drawState])), (a10, .inr (6, [.ref a11, .ref a12, .ref a13, .ref a14, .ref a15, .ref a16, .int day2, .int wind2, .int loft2, .int lost2, .ref a17, .ref a18, .ref a19, .int launchCount2, .long drawState2])), (a11, .inr (1, [.ref a20, .ref a21, .ref a22, .int count])), (a1, .inr (1, [.ref a23, .ref a24, .ref a25, .int count2])), (a20, .inl (kc 1, 16, .inl kind)), (a23, .inl (kc 1, 16, .inl kind2)), (a21, .inl (kc 1, 16, .inl number)), (a24, .inl (kc 1, 16, .inl number2)), (a22, .inl (kc 1, 16, .inl day3)), (a25, .inl (kc 1, 16, .inl day4)), (a12, .inl (kc 1, 10, .inl balloonState)), (a2, .inl (kc 1, 10, .inl balloonState2)), (a13, .inl (kc 1, 10, .inl balloonRegion)), (a3, .inl (kc 1, 10, .inl balloonRegion2)), (a14, .inl (kc 1, 10, .inl cargo)), (a4, .inl (kc 1, 10, .inl cargo2)), (a15, .inl (kc 1, 4, .inl letters)), (a5, .inl (kc 1, 4, .inl letters2)), (a16, .inl (kc 1, 24, .inl answeredOn)), (a6, .inl (kc 1, 24, .inl answeredOn2)), (a17, .inl (kc 1, 10, .inl homing)), (a7, .inl (kc 1, 10, .inl homing2)), (a18, .inl (kc 1, 10, .inl due)), (a8, .inl (kc 1, 10, .inl due2)), (a19, .inl (kc 1, 10, .inl launched)), (a9, .inl (kc 1, 10, .inl launched2))]
set_option maxHeartbeats 4000000 in
set_option maxRecDepth 100000 in
theorem c_X6_copyFrom (l : Launch) (D : va_G) (kc : Nat → ClassId) (N : Nat) (a0 a1 a2 a3 a4 a5 a6 a7 a8 a9 a10 a11 a12 a13 a14 a15 a16 a17 a18 a19 a20 a21 a22 a23 a24 a25 : Nat) (day : Int32) (wind : Int32) (loft : Int32) (lost : Int32) (launchCount : Int32) (drawState : Int64) (day2 : Int32) (wind2 : Int32) (loft2 : Int32) (lost2 : Int32) (launchCount2 : Int32) (drawState2 : Int64) (count : Int32) (count2 : Int32) (kind : Nat → Int32) (kind2 : Nat → Int32) (number : Nat → Int32) (number2 : Nat → Int32) (day3 : Nat → Int32) (day4 : Nat → Int32) (balloonState : Nat → Int32) (balloonState2 : Nat → Int32) (balloonRegion : Nat → Int32) (balloonRegion2 : Nat → Int32) (cargo : Nat → Int32) (cargo2 : Nat → Int32) (letters : Nat → Int32) (letters2 : Nat → Int32) (answeredOn : Nat → Int32) (answeredOn2 : Nat → Int32) (homing : Nat → Int32) (homing2 : Nat → Int32) (due : Nat → Int32) (due2 : Nat → Int32) (launched : Nat → Int32) (launched2 : Nat → Int32) (day' : Int32) (wind' : Int32) (loft' : Int32) (lost' : Int32) (launchCount' : Int32) (drawState' : Int64) (count2' : Int32) (kind2' : Nat → Int32) (number2' : Nat → Int32) (day4' : Nat → Int32) (balloonState2' : Nat → Int32) (balloonRegion2' : Nat → Int32) (cargo2' : Nat → Int32) (letters2' : Nat → Int32) (answeredOn2' : Nat → Int32) (homing2' : Nat → Int32) (due2' : Nat → Int32) (launched2' : Nat → Int32) (hf : f_X6_copyFrom N day2 wind2 loft2 lost2 launchCount2 drawState2 count kind kind2 number number2 day3 day4 balloonState balloonState2 balloonRegion balloonRegion2 cargo cargo2 letters letters2 answeredOn answeredOn2 homing homing2 due due2 launched launched2 = some (day', wind', loft', lost', launchCount', drawState', count2', kind2', number2', day4', balloonState2', balloonRegion2', cargo2', letters2', answeredOn2', homing2', due2', launched2')) : MV l yX6_copyFrom wsX6_copyFrom ({ frames := 2, cells := 0, slots := 0, locals := 61 }) D kc [.ref a0, .ref a10] (w_X6_copyFrom kc a0 a1 a2 a3 a4 a5 a6 a7 a8 a9 a10 a11 a12 a13 a14 a15 a16 a17 a18 a19 a20 a21 a22 a23 a24 a25 day wind loft lost launchCount drawState day2 wind2 loft2 lost2 launchCount2 drawState2 count count2 kind kind2 number number2 day3 day4 balloonState balloonState2 balloonRegion balloonRegion2 cargo cargo2 letters letters2 answeredOn answeredOn2 homing homing2 due due2 launched launched2) (w_X6_copyFrom kc a0 a1 a2 a3 a4 a5 a6 a7 a8 a9 a10 a11 a12 a13 a14 a15 a16 a17 a18 a19 a20 a21 a22 a23 a24 a25 day' wind' loft' lost' launchCount' drawState' day2 wind2 loft2 lost2 launchCount2 drawState2 count count2' kind kind2' number number2' day3 day4' balloonState balloonState2' balloonRegion balloonRegion2' cargo cargo2' letters letters2' answeredOn answeredOn2' homing homing2' due due2' launched launched2') := by
  refine gM_V (cc := cX6_copyFrom) (maxL := 2) (by decide) rfl (Nat.le_of_ble_eq_true rfl) ?_
  intro p e s m below meth c A ls Q hx hb hml hown hts hN hK hP hD hA hl kR
  have hS : va_S A s.heap s.heap [] := va_S.rf
  have hl : lv_has ls 2 [(0, .ref a0), (1, .ref a10)] := hl
  have in_X6 : ∀ w ∈ u_ws RX6 TX6 15, w ∈ wsX6_copyFrom := by decide +kernel
  have lk_12 := hts (.fieldLink RX6 12 "BalloonMail$State" "journal" "LBalloonMail$Journal;") (by decide +kernel)
  have lk_18 := hts (.fieldLink RX6 18 "BalloonMail$State" "balloonState" "[I") (by decide +kernel)
  have lk_22 := hts (.fieldLink RX6 22 "BalloonMail$State" "balloonRegion" "[I") (by decide +kernel)
  have lk_25 := hts (.fieldLink RX6 25 "BalloonMail$State" "cargo" "[I") (by decide +kernel)
  have lk_28 := hts (.fieldLink RX6 28 "BalloonMail$State" "letters" "[I") (by decide +kernel)
  have lk_31 := hts (.fieldLink RX6 31 "BalloonMail$State" "answeredOn" "[I") (by decide +kernel)
  have lk_38 := hts (.fieldLink RX6 38 "BalloonMail$State" "homing" "[I") (by decide +kernel)
  have lk_41 := hts (.fieldLink RX6 41 "BalloonMail$State" "due" "[I") (by decide +kernel)
  have lk_44 := hts (.fieldLink RX6 44 "BalloonMail$State" "launched" "[I") (by decide +kernel)
  have lk_60 := hts (.fieldLink RX6 60 "BalloonMail$State" "launchCount" "I") (by decide +kernel)
  have lk_63 := hts (.fieldLink RX6 63 "BalloonMail$State" "day" "I") (by decide +kernel)
  have lk_34 := hts (.fieldLink RX6 34 "BalloonMail$State" "wind" "I") (by decide +kernel)
  have lk_79 := hts (.fieldLink RX6 79 "BalloonMail$State" "loft" "I") (by decide +kernel)
  have lk_80 := hts (.fieldLink RX6 80 "BalloonMail$State" "lost" "I") (by decide +kernel)
  have lk_86 := hts (.fieldLink RX6 86 "BalloonMail$State" "drawState" "J") (by decide +kernel)
  unfold f_X6_copyFrom at hf
  refine lv_aload_n hx hb dX6_copyFrom_0 rfl (lv_at hl 0 rfl) ?_
  refine va_get (D := D) (ci := 6) (v := .ref a1) (C := RX6) (T := TX6) (N := 15) hx hb hts in_X6 hown hK hP 0 rfl rfl 0 (by decide) lk_12 (fun _ h9 => h9) rfl dX6_copyFrom_1 ?_
  refine lv_aload_n hx hb dX6_copyFrom_4 rfl (lv_at hl 1 rfl) ?_
  refine va_get (D := D) (ci := 6) (v := .ref a11) (C := RX6) (T := TX6) (N := 15) hx hb hts in_X6 hown hK hP 1 rfl rfl 0 (by decide) lk_12 (fun _ h9 => h9) rfl dX6_copyFrom_5 ?_
  obtain ⟨count2_1, kind2_2, number2_3, day4_4, hc, hf⟩ := ob4_some hf
  refine g_VV (As := [.ref a11]) (rest := []) (ws' := (w_X6_copyFrom kc a0 a1 a2 a3 a4 a5 a6 a7 a8 a9 a10 a11 a12 a13 a14 a15 a16 a17 a18 a19 a20 a21 a22 a23 a24 a25 day wind loft lost launchCount drawState day2 wind2 loft2 lost2 launchCount2 drawState2 count count2_1 kind kind2_2 number number2_3 day3 day4_4 balloonState balloonState2 balloonRegion balloonRegion2 cargo cargo2 letters letters2 answeredOn answeredOn2 homing homing2 due due2 launched launched2)) ⟨hx, hb, hml, hown, hts⟩ hN hK hP hD hS hA (c_X1_copyFrom l D kc N a11 a20 a21 a22 a1 a23 a24 a25 count count2 kind kind2 number number2 day3 day4 count2_1 kind2_2 number2_3 day4_4 hc) (cwV 1 hts gX6_copyFrom_X1_copyFrom rfl rfl rfl (by decide +kernel) ⟨Nat.le_of_ble_eq_true rfl, Nat.le_of_ble_eq_true rfl⟩) [2, 3, 4, 5, 6, 7, 8, 9] [0, 1, 10, 11, 12, 13, 14, 15, 16, 17, 18, 19, 20, 21, 22, 23, 24, 25] [0, 1, 18, 19, 20, 21, 22, 23, 24, 25, 2, 3, 4, 5, 6, 7, 8, 9, 10, 11, 12, 13, 14, 15, 16, 17] (by exact ⟨rfl, rfl, by decide, rfl⟩) 3 1 rfl rfl rfl rfl hl.1 rfl (Nat.le_of_ble_eq_true rfl) dX6_copyFrom_8 ⟨Nat.le_refl _, Nat.le_refl _⟩ (fun H locs hP hD hS => ?_)
  refine lv_aload_n hx hb dX6_copyFrom_11 rfl (lv_at hl 1 rfl) ?_
  refine va_get (D := D) (ci := 6) (v := .ref a12) (C := RX6) (T := TX6) (N := 15) hx hb hts in_X6 hown hK hP 1 rfl rfl 1 (by decide) lk_18 (fun _ h9 => h9) rfl dX6_copyFrom_12 ?_
  refine lv_iconst (v := 0) hx hb dX6_copyFrom_15 (by decide) ?_
  refine lv_aload_n hx hb dX6_copyFrom_16 rfl (lv_at hl 0 rfl) ?_
  refine va_get (D := D) (ci := 6) (v := .ref a2) (C := RX6) (T := TX6) (N := 15) hx hb hts in_X6 hown hK hP 0 rfl rfl 1 (by decide) lk_18 (fun _ h9 => h9) rfl dX6_copyFrom_17 ?_
  refine lv_iconst (v := 0) hx hb dX6_copyFrom_20 (by decide) ?_
  refine lv_bipush (v := 10) hx hb dX6_copyFrom_21 (by decide) ?_
  refine va_copyi hx hb (hml.trans hl.1.symm) hown (hts (.methodLink RX6 94 arraycopyName) (by decide +kernel)) (hts (.native arraycopyName) (by decide +kernel)) (hts (.static arraycopyName) (by decide +kernel)) (hts (.initialized "java/lang/System") (by decide +kernel)) hK hP hD hS 10 11 1 1 rfl rfl rfl rfl rfl (by decide) (by decide) (by decide) (by decide) (by decide) (fun _ _ => rfl) (Nat.le_of_ble_eq_true rfl) (Nat.le_of_ble_eq_true rfl) dX6_copyFrom_23 (fun H locs hP hD hS => ?_)
  have hP : va_P D vwCl (w_X6_copyFrom kc a0 a1 a2 a3 a4 a5 a6 a7 a8 a9 a10 a11 a12 a13 a14 a15 a16 a17 a18 a19 a20 a21 a22 a23 a24 a25 day wind loft lost launchCount drawState day2 wind2 loft2 lost2 launchCount2 drawState2 count count2_1 kind kind2_2 number number2_3 day3 day4_4 balloonState (va_cpy balloonState balloonState2 0 0 10) balloonRegion balloonRegion2 cargo cargo2 letters letters2 answeredOn answeredOn2 homing homing2 due due2 launched launched2) H := hP
  have hD : va_D A (w_X6_copyFrom kc a0 a1 a2 a3 a4 a5 a6 a7 a8 a9 a10 a11 a12 a13 a14 a15 a16 a17 a18 a19 a20 a21 a22 a23 a24 a25 day wind loft lost launchCount drawState day2 wind2 loft2 lost2 launchCount2 drawState2 count count2_1 kind kind2_2 number number2_3 day3 day4_4 balloonState (va_cpy balloonState balloonState2 0 0 10) balloonRegion balloonRegion2 cargo cargo2 letters letters2 answeredOn answeredOn2 homing homing2 due due2 launched launched2) := hD
  refine lv_aload_n hx hb dX6_copyFrom_26 rfl (lv_at hl 1 rfl) ?_
  refine va_get (D := D) (ci := 6) (v := .ref a13) (C := RX6) (T := TX6) (N := 15) hx hb hts in_X6 hown hK hP 1 rfl rfl 2 (by decide) lk_22 (fun _ h9 => h9) rfl dX6_copyFrom_27 ?_
  refine lv_iconst (v := 0) hx hb dX6_copyFrom_30 (by decide) ?_
  refine lv_aload_n hx hb dX6_copyFrom_31 rfl (lv_at hl 0 rfl) ?_
  refine va_get (D := D) (ci := 6) (v := .ref a3) (C := RX6) (T := TX6) (N := 15) hx hb hts in_X6 hown hK hP 0 rfl rfl 2 (by decide) lk_22 (fun _ h9 => h9) rfl dX6_copyFrom_32 ?_
  refine lv_iconst (v := 0) hx hb dX6_copyFrom_35 (by decide) ?_
  refine lv_bipush (v := 10) hx hb dX6_copyFrom_36 (by decide) ?_
  refine va_copyi hx hb (hml.trans hl.1.symm) hown (hts (.methodLink RX6 94 arraycopyName) (by decide +kernel)) (hts (.native arraycopyName) (by decide +kernel)) (hts (.static arraycopyName) (by decide +kernel)) (hts (.initialized "java/lang/System") (by decide +kernel)) hK hP hD hS 12 13 1 1 rfl rfl rfl rfl rfl (by decide) (by decide) (by decide) (by decide) (by decide) (fun _ _ => rfl) (Nat.le_of_ble_eq_true rfl) (Nat.le_of_ble_eq_true rfl) dX6_copyFrom_38 (fun H locs hP hD hS => ?_)
  have hP : va_P D vwCl (w_X6_copyFrom kc a0 a1 a2 a3 a4 a5 a6 a7 a8 a9 a10 a11 a12 a13 a14 a15 a16 a17 a18 a19 a20 a21 a22 a23 a24 a25 day wind loft lost launchCount drawState day2 wind2 loft2 lost2 launchCount2 drawState2 count count2_1 kind kind2_2 number number2_3 day3 day4_4 balloonState (va_cpy balloonState balloonState2 0 0 10) balloonRegion (va_cpy balloonRegion balloonRegion2 0 0 10) cargo cargo2 letters letters2 answeredOn answeredOn2 homing homing2 due due2 launched launched2) H := hP
  have hD : va_D A (w_X6_copyFrom kc a0 a1 a2 a3 a4 a5 a6 a7 a8 a9 a10 a11 a12 a13 a14 a15 a16 a17 a18 a19 a20 a21 a22 a23 a24 a25 day wind loft lost launchCount drawState day2 wind2 loft2 lost2 launchCount2 drawState2 count count2_1 kind kind2_2 number number2_3 day3 day4_4 balloonState (va_cpy balloonState balloonState2 0 0 10) balloonRegion (va_cpy balloonRegion balloonRegion2 0 0 10) cargo cargo2 letters letters2 answeredOn answeredOn2 homing homing2 due due2 launched launched2) := hD
  refine lv_aload_n hx hb dX6_copyFrom_41 rfl (lv_at hl 1 rfl) ?_
  refine va_get (D := D) (ci := 6) (v := .ref a14) (C := RX6) (T := TX6) (N := 15) hx hb hts in_X6 hown hK hP 1 rfl rfl 3 (by decide) lk_25 (fun _ h9 => h9) rfl dX6_copyFrom_42 ?_
  refine lv_iconst (v := 0) hx hb dX6_copyFrom_45 (by decide) ?_
  refine lv_aload_n hx hb dX6_copyFrom_46 rfl (lv_at hl 0 rfl) ?_
  refine va_get (D := D) (ci := 6) (v := .ref a4) (C := RX6) (T := TX6) (N := 15) hx hb hts in_X6 hown hK hP 0 rfl rfl 3 (by decide) lk_25 (fun _ h9 => h9) rfl dX6_copyFrom_47 ?_
  refine lv_iconst (v := 0) hx hb dX6_copyFrom_50 (by decide) ?_
  refine lv_bipush (v := 10) hx hb dX6_copyFrom_51 (by decide) ?_
  refine va_copyi hx hb (hml.trans hl.1.symm) hown (hts (.methodLink RX6 94 arraycopyName) (by decide +kernel)) (hts (.native arraycopyName) (by decide +kernel)) (hts (.static arraycopyName) (by decide +kernel)) (hts (.initialized "java/lang/System") (by decide +kernel)) hK hP hD hS 14 15 1 1 rfl rfl rfl rfl rfl (by decide) (by decide) (by decide) (by decide) (by decide) (fun _ _ => rfl) (Nat.le_of_ble_eq_true rfl) (Nat.le_of_ble_eq_true rfl) dX6_copyFrom_53 (fun H locs hP hD hS => ?_)
  have hP : va_P D vwCl (w_X6_copyFrom kc a0 a1 a2 a3 a4 a5 a6 a7 a8 a9 a10 a11 a12 a13 a14 a15 a16 a17 a18 a19 a20 a21 a22 a23 a24 a25 day wind loft lost launchCount drawState day2 wind2 loft2 lost2 launchCount2 drawState2 count count2_1 kind kind2_2 number number2_3 day3 day4_4 balloonState (va_cpy balloonState balloonState2 0 0 10) balloonRegion (va_cpy balloonRegion balloonRegion2 0 0 10) cargo (va_cpy cargo cargo2 0 0 10) letters letters2 answeredOn answeredOn2 homing homing2 due due2 launched launched2) H := hP
  have hD : va_D A (w_X6_copyFrom kc a0 a1 a2 a3 a4 a5 a6 a7 a8 a9 a10 a11 a12 a13 a14 a15 a16 a17 a18 a19 a20 a21 a22 a23 a24 a25 day wind loft lost launchCount drawState day2 wind2 loft2 lost2 launchCount2 drawState2 count count2_1 kind kind2_2 number number2_3 day3 day4_4 balloonState (va_cpy balloonState balloonState2 0 0 10) balloonRegion (va_cpy balloonRegion balloonRegion2 0 0 10) cargo (va_cpy cargo cargo2 0 0 10) letters letters2 answeredOn answeredOn2 homing homing2 due due2 launched launched2) := hD
  refine lv_aload_n hx hb dX6_copyFrom_56 rfl (lv_at hl 1 rfl) ?_
  refine va_get (D := D) (ci := 6) (v := .ref a15) (C := RX6) (T := TX6) (N := 15) hx hb hts in_X6 hown hK hP 1 rfl rfl 4 (by decide) lk_28 (fun _ h9 => h9) rfl dX6_copyFrom_57 ?_
  refine lv_iconst (v := 0) hx hb dX6_copyFrom_60 (by decide) ?_
  refine lv_aload_n hx hb dX6_copyFrom_61 rfl (lv_at hl 0 rfl) ?_
  refine va_get (D := D) (ci := 6) (v := .ref a5) (C := RX6) (T := TX6) (N := 15) hx hb hts in_X6 hown hK hP 0 rfl rfl 4 (by decide) lk_28 (fun _ h9 => h9) rfl dX6_copyFrom_62 ?_
  refine lv_iconst (v := 0) hx hb dX6_copyFrom_65 (by decide) ?_
  refine lv_iconst (v := 4) hx hb dX6_copyFrom_66 (by decide) ?_
  refine va_copyi hx hb (hml.trans hl.1.symm) hown (hts (.methodLink RX6 94 arraycopyName) (by decide +kernel)) (hts (.native arraycopyName) (by decide +kernel)) (hts (.static arraycopyName) (by decide +kernel)) (hts (.initialized "java/lang/System") (by decide +kernel)) hK hP hD hS 16 17 1 1 rfl rfl rfl rfl rfl (by decide) (by decide) (by decide) (by decide) (by decide) (fun _ _ => rfl) (Nat.le_of_ble_eq_true rfl) (Nat.le_of_ble_eq_true rfl) dX6_copyFrom_67 (fun H locs hP hD hS => ?_)
  have hP : va_P D vwCl (w_X6_copyFrom kc a0 a1 a2 a3 a4 a5 a6 a7 a8 a9 a10 a11 a12 a13 a14 a15 a16 a17 a18 a19 a20 a21 a22 a23 a24 a25 day wind loft lost launchCount drawState day2 wind2 loft2 lost2 launchCount2 drawState2 count count2_1 kind kind2_2 number number2_3 day3 day4_4 balloonState (va_cpy balloonState balloonState2 0 0 10) balloonRegion (va_cpy balloonRegion balloonRegion2 0 0 10) cargo (va_cpy cargo cargo2 0 0 10) letters (va_cpy letters letters2 0 0 4) answeredOn answeredOn2 homing homing2 due due2 launched launched2) H := hP
  have hD : va_D A (w_X6_copyFrom kc a0 a1 a2 a3 a4 a5 a6 a7 a8 a9 a10 a11 a12 a13 a14 a15 a16 a17 a18 a19 a20 a21 a22 a23 a24 a25 day wind loft lost launchCount drawState day2 wind2 loft2 lost2 launchCount2 drawState2 count count2_1 kind kind2_2 number number2_3 day3 day4_4 balloonState (va_cpy balloonState balloonState2 0 0 10) balloonRegion (va_cpy balloonRegion balloonRegion2 0 0 10) cargo (va_cpy cargo cargo2 0 0 10) letters (va_cpy letters letters2 0 0 4) answeredOn answeredOn2 homing homing2 due due2 launched launched2) := hD
  refine lv_aload_n hx hb dX6_copyFrom_70 rfl (lv_at hl 1 rfl) ?_
  refine va_get (D := D) (ci := 6) (v := .ref a16) (C := RX6) (T := TX6) (N := 15) hx hb hts in_X6 hown hK hP 1 rfl rfl 5 (by decide) lk_31 (fun _ h9 => h9) rfl dX6_copyFrom_71 ?_
  refine lv_iconst (v := 0) hx hb dX6_copyFrom_74 (by decide) ?_
  refine lv_aload_n hx hb dX6_copyFrom_75 rfl (lv_at hl 0 rfl) ?_
  refine va_get (D := D) (ci := 6) (v := .ref a6) (C := RX6) (T := TX6) (N := 15) hx hb hts in_X6 hown hK hP 0 rfl rfl 5 (by decide) lk_31 (fun _ h9 => h9) rfl dX6_copyFrom_76 ?_
  refine lv_iconst (v := 0) hx hb dX6_copyFrom_79 (by decide) ?_
  refine lv_bipush (v := 24) hx hb dX6_copyFrom_80 (by decide) ?_
  refine va_copyi hx hb (hml.trans hl.1.symm) hown (hts (.methodLink RX6 94 arraycopyName) (by decide +kernel)) (hts (.native arraycopyName) (by decide +kernel)) (hts (.static arraycopyName) (by decide +kernel)) (hts (.initialized "java/lang/System") (by decide +kernel)) hK hP hD hS 18 19 1 1 rfl rfl rfl rfl rfl (by decide) (by decide) (by decide) (by decide) (by decide) (fun _ _ => rfl) (Nat.le_of_ble_eq_true rfl) (Nat.le_of_ble_eq_true rfl) dX6_copyFrom_82 (fun H locs hP hD hS => ?_)
  have hP : va_P D vwCl (w_X6_copyFrom kc a0 a1 a2 a3 a4 a5 a6 a7 a8 a9 a10 a11 a12 a13 a14 a15 a16 a17 a18 a19 a20 a21 a22 a23 a24 a25 day wind loft lost launchCount drawState day2 wind2 loft2 lost2 launchCount2 drawState2 count count2_1 kind kind2_2 number number2_3 day3 day4_4 balloonState (va_cpy balloonState balloonState2 0 0 10) balloonRegion (va_cpy balloonRegion balloonRegion2 0 0 10) cargo (va_cpy cargo cargo2 0 0 10) letters (va_cpy letters letters2 0 0 4) answeredOn (va_cpy answeredOn answeredOn2 0 0 24) homing homing2 due due2 launched launched2) H := hP
  have hD : va_D A (w_X6_copyFrom kc a0 a1 a2 a3 a4 a5 a6 a7 a8 a9 a10 a11 a12 a13 a14 a15 a16 a17 a18 a19 a20 a21 a22 a23 a24 a25 day wind loft lost launchCount drawState day2 wind2 loft2 lost2 launchCount2 drawState2 count count2_1 kind kind2_2 number number2_3 day3 day4_4 balloonState (va_cpy balloonState balloonState2 0 0 10) balloonRegion (va_cpy balloonRegion balloonRegion2 0 0 10) cargo (va_cpy cargo cargo2 0 0 10) letters (va_cpy letters letters2 0 0 4) answeredOn (va_cpy answeredOn answeredOn2 0 0 24) homing homing2 due due2 launched launched2) := hD
  refine lv_aload_n hx hb dX6_copyFrom_85 rfl (lv_at hl 1 rfl) ?_
  refine va_get (D := D) (ci := 6) (v := .ref a17) (C := RX6) (T := TX6) (N := 15) hx hb hts in_X6 hown hK hP 1 rfl rfl 10 (by decide) lk_38 (fun _ h9 => h9) rfl dX6_copyFrom_86 ?_
  refine lv_iconst (v := 0) hx hb dX6_copyFrom_89 (by decide) ?_
  refine lv_aload_n hx hb dX6_copyFrom_90 rfl (lv_at hl 0 rfl) ?_
  refine va_get (D := D) (ci := 6) (v := .ref a7) (C := RX6) (T := TX6) (N := 15) hx hb hts in_X6 hown hK hP 0 rfl rfl 10 (by decide) lk_38 (fun _ h9 => h9) rfl dX6_copyFrom_91 ?_
  refine lv_iconst (v := 0) hx hb dX6_copyFrom_94 (by decide) ?_
  refine lv_bipush (v := 10) hx hb dX6_copyFrom_95 (by decide) ?_
  refine va_copyi hx hb (hml.trans hl.1.symm) hown (hts (.methodLink RX6 94 arraycopyName) (by decide +kernel)) (hts (.native arraycopyName) (by decide +kernel)) (hts (.static arraycopyName) (by decide +kernel)) (hts (.initialized "java/lang/System") (by decide +kernel)) hK hP hD hS 20 21 1 1 rfl rfl rfl rfl rfl (by decide) (by decide) (by decide) (by decide) (by decide) (fun _ _ => rfl) (Nat.le_of_ble_eq_true rfl) (Nat.le_of_ble_eq_true rfl) dX6_copyFrom_97 (fun H locs hP hD hS => ?_)
  have hP : va_P D vwCl (w_X6_copyFrom kc a0 a1 a2 a3 a4 a5 a6 a7 a8 a9 a10 a11 a12 a13 a14 a15 a16 a17 a18 a19 a20 a21 a22 a23 a24 a25 day wind loft lost launchCount drawState day2 wind2 loft2 lost2 launchCount2 drawState2 count count2_1 kind kind2_2 number number2_3 day3 day4_4 balloonState (va_cpy balloonState balloonState2 0 0 10) balloonRegion (va_cpy balloonRegion balloonRegion2 0 0 10) cargo (va_cpy cargo cargo2 0 0 10) letters (va_cpy letters letters2 0 0 4) answeredOn (va_cpy answeredOn answeredOn2 0 0 24) homing (va_cpy homing homing2 0 0 10) due due2 launched launched2) H := hP
  have hD : va_D A (w_X6_copyFrom kc a0 a1 a2 a3 a4 a5 a6 a7 a8 a9 a10 a11 a12 a13 a14 a15 a16 a17 a18 a19 a20 a21 a22 a23 a24 a25 day wind loft lost launchCount drawState day2 wind2 loft2 lost2 launchCount2 drawState2 count count2_1 kind kind2_2 number number2_3 day3 day4_4 balloonState (va_cpy balloonState balloonState2 0 0 10) balloonRegion (va_cpy balloonRegion balloonRegion2 0 0 10) cargo (va_cpy cargo cargo2 0 0 10) letters (va_cpy letters letters2 0 0 4) answeredOn (va_cpy answeredOn answeredOn2 0 0 24) homing (va_cpy homing homing2 0 0 10) due due2 launched launched2) := hD
  refine lv_aload_n hx hb dX6_copyFrom_100 rfl (lv_at hl 1 rfl) ?_
  refine va_get (D := D) (ci := 6) (v := .ref a18) (C := RX6) (T := TX6) (N := 15) hx hb hts in_X6 hown hK hP 1 rfl rfl 11 (by decide) lk_41 (fun _ h9 => h9) rfl dX6_copyFrom_101 ?_
  refine lv_iconst (v := 0) hx hb dX6_copyFrom_104 (by decide) ?_
  refine lv_aload_n hx hb dX6_copyFrom_105 rfl (lv_at hl 0 rfl) ?_
  refine va_get (D := D) (ci := 6) (v := .ref a8) (C := RX6) (T := TX6) (N := 15) hx hb hts in_X6 hown hK hP 0 rfl rfl 11 (by decide) lk_41 (fun _ h9 => h9) rfl dX6_copyFrom_106 ?_
  refine lv_iconst (v := 0) hx hb dX6_copyFrom_109 (by decide) ?_
  refine lv_bipush (v := 10) hx hb dX6_copyFrom_110 (by decide) ?_
  refine va_copyi hx hb (hml.trans hl.1.symm) hown (hts (.methodLink RX6 94 arraycopyName) (by decide +kernel)) (hts (.native arraycopyName) (by decide +kernel)) (hts (.static arraycopyName) (by decide +kernel)) (hts (.initialized "java/lang/System") (by decide +kernel)) hK hP hD hS 22 23 1 1 rfl rfl rfl rfl rfl (by decide) (by decide) (by decide) (by decide) (by decide) (fun _ _ => rfl) (Nat.le_of_ble_eq_true rfl) (Nat.le_of_ble_eq_true rfl) dX6_copyFrom_112 (fun H locs hP hD hS => ?_)
  have hP : va_P D vwCl (w_X6_copyFrom kc a0 a1 a2 a3 a4 a5 a6 a7 a8 a9 a10 a11 a12 a13 a14 a15 a16 a17 a18 a19 a20 a21 a22 a23 a24 a25 day wind loft lost launchCount drawState day2 wind2 loft2 lost2 launchCount2 drawState2 count count2_1 kind kind2_2 number number2_3 day3 day4_4 balloonState (va_cpy balloonState balloonState2 0 0 10) balloonRegion (va_cpy balloonRegion balloonRegion2 0 0 10) cargo (va_cpy cargo cargo2 0 0 10) letters (va_cpy letters letters2 0 0 4) answeredOn (va_cpy answeredOn answeredOn2 0 0 24) homing (va_cpy homing homing2 0 0 10) due (va_cpy due due2 0 0 10) launched launched2) H := hP
  have hD : va_D A (w_X6_copyFrom kc a0 a1 a2 a3 a4 a5 a6 a7 a8 a9 a10 a11 a12 a13 a14 a15 a16 a17 a18 a19 a20 a21 a22 a23 a24 a25 day wind loft lost launchCount drawState day2 wind2 loft2 lost2 launchCount2 drawState2 count count2_1 kind kind2_2 number number2_3 day3 day4_4 balloonState (va_cpy balloonState balloonState2 0 0 10) balloonRegion (va_cpy balloonRegion balloonRegion2 0 0 10) cargo (va_cpy cargo cargo2 0 0 10) letters (va_cpy letters letters2 0 0 4) answeredOn (va_cpy answeredOn answeredOn2 0 0 24) homing (va_cpy homing homing2 0 0 10) due (va_cpy due due2 0 0 10) launched launched2) := hD
  refine lv_aload_n hx hb dX6_copyFrom_115 rfl (lv_at hl 1 rfl) ?_
  refine va_get (D := D) (ci := 6) (v := .ref a19) (C := RX6) (T := TX6) (N := 15) hx hb hts in_X6 hown hK hP 1 rfl rfl 12 (by decide) lk_44 (fun _ h9 => h9) rfl dX6_copyFrom_116 ?_
  refine lv_iconst (v := 0) hx hb dX6_copyFrom_119 (by decide) ?_
  refine lv_aload_n hx hb dX6_copyFrom_120 rfl (lv_at hl 0 rfl) ?_
  refine va_get (D := D) (ci := 6) (v := .ref a9) (C := RX6) (T := TX6) (N := 15) hx hb hts in_X6 hown hK hP 0 rfl rfl 12 (by decide) lk_44 (fun _ h9 => h9) rfl dX6_copyFrom_121 ?_
  refine lv_iconst (v := 0) hx hb dX6_copyFrom_124 (by decide) ?_
  refine lv_bipush (v := 10) hx hb dX6_copyFrom_125 (by decide) ?_
  refine va_copyi hx hb (hml.trans hl.1.symm) hown (hts (.methodLink RX6 94 arraycopyName) (by decide +kernel)) (hts (.native arraycopyName) (by decide +kernel)) (hts (.static arraycopyName) (by decide +kernel)) (hts (.initialized "java/lang/System") (by decide +kernel)) hK hP hD hS 24 25 1 1 rfl rfl rfl rfl rfl (by decide) (by decide) (by decide) (by decide) (by decide) (fun _ _ => rfl) (Nat.le_of_ble_eq_true rfl) (Nat.le_of_ble_eq_true rfl) dX6_copyFrom_127 (fun H locs hP hD hS => ?_)
  have hP : va_P D vwCl (w_X6_copyFrom kc a0 a1 a2 a3 a4 a5 a6 a7 a8 a9 a10 a11 a12 a13 a14 a15 a16 a17 a18 a19 a20 a21 a22 a23 a24 a25 day wind loft lost launchCount drawState day2 wind2 loft2 lost2 launchCount2 drawState2 count count2_1 kind kind2_2 number number2_3 day3 day4_4 balloonState (va_cpy balloonState balloonState2 0 0 10) balloonRegion (va_cpy balloonRegion balloonRegion2 0 0 10) cargo (va_cpy cargo cargo2 0 0 10) letters (va_cpy letters letters2 0 0 4) answeredOn (va_cpy answeredOn answeredOn2 0 0 24) homing (va_cpy homing homing2 0 0 10) due (va_cpy due due2 0 0 10) launched (va_cpy launched launched2 0 0 10)) H := hP
  have hD : va_D A (w_X6_copyFrom kc a0 a1 a2 a3 a4 a5 a6 a7 a8 a9 a10 a11 a12 a13 a14 a15 a16 a17 a18 a19 a20 a21 a22 a23 a24 a25 day wind loft lost launchCount drawState day2 wind2 loft2 lost2 launchCount2 drawState2 count count2_1 kind kind2_2 number number2_3 day3 day4_4 balloonState (va_cpy balloonState balloonState2 0 0 10) balloonRegion (va_cpy balloonRegion balloonRegion2 0 0 10) cargo (va_cpy cargo cargo2 0 0 10) letters (va_cpy letters letters2 0 0 4) answeredOn (va_cpy answeredOn answeredOn2 0 0 24) homing (va_cpy homing homing2 0 0 10) due (va_cpy due due2 0 0 10) launched (va_cpy launched launched2 0 0 10)) := hD
  refine lv_aload_n hx hb dX6_copyFrom_130 rfl (lv_at hl 0 rfl) ?_
  refine lv_aload_n hx hb dX6_copyFrom_131 rfl (lv_at hl 1 rfl) ?_
  refine va_get (D := D) (ci := 6) (v := .int launchCount2) (C := RX6) (T := TX6) (N := 15) hx hb hts in_X6 hown hK hP 1 rfl rfl 13 (by decide) lk_60 (fun _ h9 => h9) rfl dX6_copyFrom_132 ?_
  refine va_put (D := D) (ci := 6) (v := .int launchCount2) (ty := .int) (C := RX6) (T := TX6) (N := 15) hx hb hts in_X6 tyX6 tyX6_ok nmX6 hown hK hP hD hS 0 rfl rfl 13 (by decide) lk_60 (fun _ h9 => h9) rfl (by decide +kernel) rfl rfl (Nat.le_of_ble_eq_true rfl) dX6_copyFrom_135 (fun H locs hP hD hS => ?_)
  have hP : va_P D vwCl (w_X6_copyFrom kc a0 a1 a2 a3 a4 a5 a6 a7 a8 a9 a10 a11 a12 a13 a14 a15 a16 a17 a18 a19 a20 a21 a22 a23 a24 a25 day wind loft lost launchCount2 drawState day2 wind2 loft2 lost2 launchCount2 drawState2 count count2_1 kind kind2_2 number number2_3 day3 day4_4 balloonState (va_cpy balloonState balloonState2 0 0 10) balloonRegion (va_cpy balloonRegion balloonRegion2 0 0 10) cargo (va_cpy cargo cargo2 0 0 10) letters (va_cpy letters letters2 0 0 4) answeredOn (va_cpy answeredOn answeredOn2 0 0 24) homing (va_cpy homing homing2 0 0 10) due (va_cpy due due2 0 0 10) launched (va_cpy launched launched2 0 0 10)) H := hP
  have hD : va_D A (w_X6_copyFrom kc a0 a1 a2 a3 a4 a5 a6 a7 a8 a9 a10 a11 a12 a13 a14 a15 a16 a17 a18 a19 a20 a21 a22 a23 a24 a25 day wind loft lost launchCount2 drawState day2 wind2 loft2 lost2 launchCount2 drawState2 count count2_1 kind kind2_2 number number2_3 day3 day4_4 balloonState (va_cpy balloonState balloonState2 0 0 10) balloonRegion (va_cpy balloonRegion balloonRegion2 0 0 10) cargo (va_cpy cargo cargo2 0 0 10) letters (va_cpy letters letters2 0 0 4) answeredOn (va_cpy answeredOn answeredOn2 0 0 24) homing (va_cpy homing homing2 0 0 10) due (va_cpy due due2 0 0 10) launched (va_cpy launched launched2 0 0 10)) := hD
  refine lv_aload_n hx hb dX6_copyFrom_138 rfl (lv_at hl 0 rfl) ?_
  refine lv_aload_n hx hb dX6_copyFrom_139 rfl (lv_at hl 1 rfl) ?_
  refine va_get (D := D) (ci := 6) (v := .int day2) (C := RX6) (T := TX6) (N := 15) hx hb hts in_X6 hown hK hP 1 rfl rfl 6 (by decide) lk_63 (fun _ h9 => h9) rfl dX6_copyFrom_140 ?_
  refine va_put (D := D) (ci := 6) (v := .int day2) (ty := .int) (C := RX6) (T := TX6) (N := 15) hx hb hts in_X6 tyX6 tyX6_ok nmX6 hown hK hP hD hS 0 rfl rfl 6 (by decide) lk_63 (fun _ h9 => h9) rfl (by decide +kernel) rfl rfl (Nat.le_of_ble_eq_true rfl) dX6_copyFrom_143 (fun H locs hP hD hS => ?_)
  have hP : va_P D vwCl (w_X6_copyFrom kc a0 a1 a2 a3 a4 a5 a6 a7 a8 a9 a10 a11 a12 a13 a14 a15 a16 a17 a18 a19 a20 a21 a22 a23 a24 a25 day2 wind loft lost launchCount2 drawState day2 wind2 loft2 lost2 launchCount2 drawState2 count count2_1 kind kind2_2 number number2_3 day3 day4_4 balloonState (va_cpy balloonState balloonState2 0 0 10) balloonRegion (va_cpy balloonRegion balloonRegion2 0 0 10) cargo (va_cpy cargo cargo2 0 0 10) letters (va_cpy letters letters2 0 0 4) answeredOn (va_cpy answeredOn answeredOn2 0 0 24) homing (va_cpy homing homing2 0 0 10) due (va_cpy due due2 0 0 10) launched (va_cpy launched launched2 0 0 10)) H := hP
  have hD : va_D A (w_X6_copyFrom kc a0 a1 a2 a3 a4 a5 a6 a7 a8 a9 a10 a11 a12 a13 a14 a15 a16 a17 a18 a19 a20 a21 a22 a23 a24 a25 day2 wind loft lost launchCount2 drawState day2 wind2 loft2 lost2 launchCount2 drawState2 count count2_1 kind kind2_2 number number2_3 day3 day4_4 balloonState (va_cpy balloonState balloonState2 0 0 10) balloonRegion (va_cpy balloonRegion balloonRegion2 0 0 10) cargo (va_cpy cargo cargo2 0 0 10) letters (va_cpy letters letters2 0 0 4) answeredOn (va_cpy answeredOn answeredOn2 0 0 24) homing (va_cpy homing homing2 0 0 10) due (va_cpy due due2 0 0 10) launched (va_cpy launched launched2 0 0 10)) := hD
  refine lv_aload_n hx hb dX6_copyFrom_146 rfl (lv_at hl 0 rfl) ?_
  refine lv_aload_n hx hb dX6_copyFrom_147 rfl (lv_at hl 1 rfl) ?_
  refine va_get (D := D) (ci := 6) (v := .int wind2) (C := RX6) (T := TX6) (N := 15) hx hb hts in_X6 hown hK hP 1 rfl rfl 7 (by decide) lk_34 (fun _ h9 => h9) rfl dX6_copyFrom_148 ?_
  refine va_put (D := D) (ci := 6) (v := .int wind2) (ty := .int) (C := RX6) (T := TX6) (N := 15) hx hb hts in_X6 tyX6 tyX6_ok nmX6 hown hK hP hD hS 0 rfl rfl 7 (by decide) lk_34 (fun _ h9 => h9) rfl (by decide +kernel) rfl rfl (Nat.le_of_ble_eq_true rfl) dX6_copyFrom_151 (fun H locs hP hD hS => ?_)
  have hP : va_P D vwCl (w_X6_copyFrom kc a0 a1 a2 a3 a4 a5 a6 a7 a8 a9 a10 a11 a12 a13 a14 a15 a16 a17 a18 a19 a20 a21 a22 a23 a24 a25 day2 wind2 loft lost launchCount2 drawState day2 wind2 loft2 lost2 launchCount2 drawState2 count count2_1 kind kind2_2 number number2_3 day3 day4_4 balloonState (va_cpy balloonState balloonState2 0 0 10) balloonRegion (va_cpy balloonRegion balloonRegion2 0 0 10) cargo (va_cpy cargo cargo2 0 0 10) letters (va_cpy letters letters2 0 0 4) answeredOn (va_cpy answeredOn answeredOn2 0 0 24) homing (va_cpy homing homing2 0 0 10) due (va_cpy due due2 0 0 10) launched (va_cpy launched launched2 0 0 10)) H := hP
  have hD : va_D A (w_X6_copyFrom kc a0 a1 a2 a3 a4 a5 a6 a7 a8 a9 a10 a11 a12 a13 a14 a15 a16 a17 a18 a19 a20 a21 a22 a23 a24 a25 day2 wind2 loft lost launchCount2 drawState day2 wind2 loft2 lost2 launchCount2 drawState2 count count2_1 kind kind2_2 number number2_3 day3 day4_4 balloonState (va_cpy balloonState balloonState2 0 0 10) balloonRegion (va_cpy balloonRegion balloonRegion2 0 0 10) cargo (va_cpy cargo cargo2 0 0 10) letters (va_cpy letters letters2 0 0 4) answeredOn (va_cpy answeredOn answeredOn2 0 0 24) homing (va_cpy homing homing2 0 0 10) due (va_cpy due due2 0 0 10) launched (va_cpy launched launched2 0 0 10)) := hD
  refine lv_aload_n hx hb dX6_copyFrom_154 rfl (lv_at hl 0 rfl) ?_
  refine lv_aload_n hx hb dX6_copyFrom_155 rfl (lv_at hl 1 rfl) ?_
  refine va_get (D := D) (ci := 6) (v := .int loft2) (C := RX6) (T := TX6) (N := 15) hx hb hts in_X6 hown hK hP 1 rfl rfl 8 (by decide) lk_79 (fun _ h9 => h9) rfl dX6_copyFrom_156 ?_
  refine va_put (D := D) (ci := 6) (v := .int loft2) (ty := .int) (C := RX6) (T := TX6) (N := 15) hx hb hts in_X6 tyX6 tyX6_ok nmX6 hown hK hP hD hS 0 rfl rfl 8 (by decide) lk_79 (fun _ h9 => h9) rfl (by decide +kernel) rfl rfl (Nat.le_of_ble_eq_true rfl) dX6_copyFrom_159 (fun H locs hP hD hS => ?_)
  have hP : va_P D vwCl (w_X6_copyFrom kc a0 a1 a2 a3 a4 a5 a6 a7 a8 a9 a10 a11 a12 a13 a14 a15 a16 a17 a18 a19 a20 a21 a22 a23 a24 a25 day2 wind2 loft2 lost launchCount2 drawState day2 wind2 loft2 lost2 launchCount2 drawState2 count count2_1 kind kind2_2 number number2_3 day3 day4_4 balloonState (va_cpy balloonState balloonState2 0 0 10) balloonRegion (va_cpy balloonRegion balloonRegion2 0 0 10) cargo (va_cpy cargo cargo2 0 0 10) letters (va_cpy letters letters2 0 0 4) answeredOn (va_cpy answeredOn answeredOn2 0 0 24) homing (va_cpy homing homing2 0 0 10) due (va_cpy due due2 0 0 10) launched (va_cpy launched launched2 0 0 10)) H := hP
  have hD : va_D A (w_X6_copyFrom kc a0 a1 a2 a3 a4 a5 a6 a7 a8 a9 a10 a11 a12 a13 a14 a15 a16 a17 a18 a19 a20 a21 a22 a23 a24 a25 day2 wind2 loft2 lost launchCount2 drawState day2 wind2 loft2 lost2 launchCount2 drawState2 count count2_1 kind kind2_2 number number2_3 day3 day4_4 balloonState (va_cpy balloonState balloonState2 0 0 10) balloonRegion (va_cpy balloonRegion balloonRegion2 0 0 10) cargo (va_cpy cargo cargo2 0 0 10) letters (va_cpy letters letters2 0 0 4) answeredOn (va_cpy answeredOn answeredOn2 0 0 24) homing (va_cpy homing homing2 0 0 10) due (va_cpy due due2 0 0 10) launched (va_cpy launched launched2 0 0 10)) := hD
  refine lv_aload_n hx hb dX6_copyFrom_162 rfl (lv_at hl 0 rfl) ?_
  refine lv_aload_n hx hb dX6_copyFrom_163 rfl (lv_at hl 1 rfl) ?_
  refine va_get (D := D) (ci := 6) (v := .int lost2) (C := RX6) (T := TX6) (N := 15) hx hb hts in_X6 hown hK hP 1 rfl rfl 9 (by decide) lk_80 (fun _ h9 => h9) rfl dX6_copyFrom_164 ?_
  refine va_put (D := D) (ci := 6) (v := .int lost2) (ty := .int) (C := RX6) (T := TX6) (N := 15) hx hb hts in_X6 tyX6 tyX6_ok nmX6 hown hK hP hD hS 0 rfl rfl 9 (by decide) lk_80 (fun _ h9 => h9) rfl (by decide +kernel) rfl rfl (Nat.le_of_ble_eq_true rfl) dX6_copyFrom_167 (fun H locs hP hD hS => ?_)
  have hP : va_P D vwCl (w_X6_copyFrom kc a0 a1 a2 a3 a4 a5 a6 a7 a8 a9 a10 a11 a12 a13 a14 a15 a16 a17 a18 a19 a20 a21 a22 a23 a24 a25 day2 wind2 loft2 lost2 launchCount2 drawState day2 wind2 loft2 lost2 launchCount2 drawState2 count count2_1 kind kind2_2 number number2_3 day3 day4_4 balloonState (va_cpy balloonState balloonState2 0 0 10) balloonRegion (va_cpy balloonRegion balloonRegion2 0 0 10) cargo (va_cpy cargo cargo2 0 0 10) letters (va_cpy letters letters2 0 0 4) answeredOn (va_cpy answeredOn answeredOn2 0 0 24) homing (va_cpy homing homing2 0 0 10) due (va_cpy due due2 0 0 10) launched (va_cpy launched launched2 0 0 10)) H := hP
  have hD : va_D A (w_X6_copyFrom kc a0 a1 a2 a3 a4 a5 a6 a7 a8 a9 a10 a11 a12 a13 a14 a15 a16 a17 a18 a19 a20 a21 a22 a23 a24 a25 day2 wind2 loft2 lost2 launchCount2 drawState day2 wind2 loft2 lost2 launchCount2 drawState2 count count2_1 kind kind2_2 number number2_3 day3 day4_4 balloonState (va_cpy balloonState balloonState2 0 0 10) balloonRegion (va_cpy balloonRegion balloonRegion2 0 0 10) cargo (va_cpy cargo cargo2 0 0 10) letters (va_cpy letters letters2 0 0 4) answeredOn (va_cpy answeredOn answeredOn2 0 0 24) homing (va_cpy homing homing2 0 0 10) due (va_cpy due due2 0 0 10) launched (va_cpy launched launched2 0 0 10)) := hD
  refine lv_aload_n hx hb dX6_copyFrom_170 rfl (lv_at hl 0 rfl) ?_
  refine lv_aload_n hx hb dX6_copyFrom_171 rfl (lv_at hl 1 rfl) ?_
  refine va_get (D := D) (ci := 6) (v := .long drawState2) (C := RX6) (T := TX6) (N := 15) hx hb hts in_X6 hown hK hP 1 rfl rfl 14 (by decide) lk_86 (fun _ h9 => h9) rfl dX6_copyFrom_172 ?_
  refine va_put (D := D) (ci := 6) (v := .long drawState2) (ty := .long) (C := RX6) (T := TX6) (N := 15) hx hb hts in_X6 tyX6 tyX6_ok nmX6 hown hK hP hD hS 0 rfl rfl 14 (by decide) lk_86 (fun _ h9 => h9) rfl (by decide +kernel) rfl rfl (Nat.le_of_ble_eq_true rfl) dX6_copyFrom_175 (fun H locs hP hD hS => ?_)
  have hP : va_P D vwCl (w_X6_copyFrom kc a0 a1 a2 a3 a4 a5 a6 a7 a8 a9 a10 a11 a12 a13 a14 a15 a16 a17 a18 a19 a20 a21 a22 a23 a24 a25 day2 wind2 loft2 lost2 launchCount2 drawState2 day2 wind2 loft2 lost2 launchCount2 drawState2 count count2_1 kind kind2_2 number number2_3 day3 day4_4 balloonState (va_cpy balloonState balloonState2 0 0 10) balloonRegion (va_cpy balloonRegion balloonRegion2 0 0 10) cargo (va_cpy cargo cargo2 0 0 10) letters (va_cpy letters letters2 0 0 4) answeredOn (va_cpy answeredOn answeredOn2 0 0 24) homing (va_cpy homing homing2 0 0 10) due (va_cpy due due2 0 0 10) launched (va_cpy launched launched2 0 0 10)) H := hP
  have hD : va_D A (w_X6_copyFrom kc a0 a1 a2 a3 a4 a5 a6 a7 a8 a9 a10 a11 a12 a13 a14 a15 a16 a17 a18 a19 a20 a21 a22 a23 a24 a25 day2 wind2 loft2 lost2 launchCount2 drawState2 day2 wind2 loft2 lost2 launchCount2 drawState2 count count2_1 kind kind2_2 number number2_3 day3 day4_4 balloonState (va_cpy balloonState balloonState2 0 0 10) balloonRegion (va_cpy balloonRegion balloonRegion2 0 0 10) cargo (va_cpy cargo cargo2 0 0 10) letters (va_cpy letters letters2 0 0 4) answeredOn (va_cpy answeredOn answeredOn2 0 0 24) homing (va_cpy homing homing2 0 0 10) due (va_cpy due due2 0 0 10) launched (va_cpy launched launched2 0 0 10)) := hD
  cases hf
  exact kR _ _ _ _ hP hD hS dX6_copyFrom_178
abbrev w_X6_draw (kc : Nat → ClassId) (a0 a1 a2 a3 a4 a5 a6 a7 a8 a9 : Nat) (day : Int32) (wind : Int32) (loft : Int32) (lost : Int32) (launchCount : Int32) (drawState : Int64) : va_W := [(a0, .inr (6, [.ref a1, .ref a2, .ref a3, .ref a4, .ref a5, .ref a6, .int day, .int wind, .int loft, .int lost, .ref a7, .ref a8, .ref a9, .int launchCount, .long drawState]))]
set_option maxHeartbeats 4000000 in
set_option maxRecDepth 100000 in
theorem c_X6_draw (l : Launch) (D : va_G) (kc : Nat → ClassId) (N : Nat) (a0 a1 a2 a3 a4 a5 a6 a7 a8 a9 : Nat) (day : Int32) (wind : Int32) (loft : Int32) (lost : Int32) (launchCount : Int32) (drawState : Int64) (r_ : Int32) (drawState' : Int64) (hf : f_X6_draw N drawState = some (r_, drawState')) : MI l yX6_draw wsX6_draw ({ frames := 0, cells := 0, slots := 0, locals := 0 }) D kc [.ref a0] (w_X6_draw kc a0 a1 a2 a3 a4 a5 a6 a7 a8 a9 day wind loft lost launchCount drawState) (w_X6_draw kc a0 a1 a2 a3 a4 a5 a6 a7 a8 a9 day wind loft lost launchCount drawState') r_ := by
  refine gM_I (cc := cX6_draw) (maxL := 1) (by decide) rfl (Nat.le_of_ble_eq_true rfl) ?_
  intro p e s m below meth c A ls Q hx hb hml hown hts hN hK hP hD hA hl kR
  have hS : va_S A s.heap s.heap [] := va_S.rf
  have hl : lv_has ls 1 [(0, .ref a0)] := hl
  have in_X6 : ∀ w ∈ u_ws RX6 TX6 15, w ∈ wsX6_draw := by decide +kernel
  have lk_86 := hts (.fieldLink RX6 86 "BalloonMail$State" "drawState" "J") (by decide +kernel)
  unfold f_X6_draw at hf
  refine lv_aload_n hx hb dX6_draw_0 rfl (lv_at hl 0 rfl) ?_
  refine lv_aload_n hx hb dX6_draw_1 rfl (lv_at hl 0 rfl) ?_
  refine va_get (D := D) (ci := 6) (v := .long drawState) (C := RX6) (T := TX6) (N := 15) hx hb hts in_X6 hown hK hP 0 rfl rfl 14 (by decide) lk_86 (fun _ h9 => h9) rfl dX6_draw_2 ?_
  refine lv_ldc2 (v := 1103515245) hx hb hown (hts (.constantLong RX6 100 (1103515245)) (by decide +kernel)) dX6_draw_5 ?_
  refine lv_lmul hx hb dX6_draw_8 ?_
  refine lv_ldc2 (v := 12345) hx hb hown (hts (.constantLong RX6 102 (12345)) (by decide +kernel)) dX6_draw_9 ?_
  refine lv_ladd hx hb dX6_draw_12 ?_
  refine lv_ldc2 (v := 2147483648) hx hb hown (hts (.constantLong RX6 104 (2147483648)) (by decide +kernel)) dX6_draw_13 ?_
  refine lv_lrem hx hb dX6_draw_16 (by decide) ?_
  refine va_put (D := D) (ci := 6) (v := .long (((drawState * 1103515245) + 12345) - ((drawState * 1103515245) + 12345) / 2147483648 * 2147483648)) (ty := .long) (C := RX6) (T := TX6) (N := 15) hx hb hts in_X6 tyX6 tyX6_ok nmX6 hown hK hP hD hS 0 rfl rfl 14 (by decide) lk_86 (fun _ h9 => h9) rfl (by decide +kernel) rfl rfl (Nat.le_of_ble_eq_true rfl) dX6_draw_17 (fun H locs hP hD hS => ?_)
  have hP : va_P D vwCl (w_X6_draw kc a0 a1 a2 a3 a4 a5 a6 a7 a8 a9 day wind loft lost launchCount (((drawState * 1103515245) + 12345) - ((drawState * 1103515245) + 12345) / 2147483648 * 2147483648)) H := hP
  have hD : va_D A (w_X6_draw kc a0 a1 a2 a3 a4 a5 a6 a7 a8 a9 day wind loft lost launchCount (((drawState * 1103515245) + 12345) - ((drawState * 1103515245) + 12345) / 2147483648 * 2147483648)) := hD
  refine lv_aload_n hx hb dX6_draw_20 rfl (lv_at hl 0 rfl) ?_
  refine va_get (D := D) (ci := 6) (v := .long (((drawState * 1103515245) + 12345) - ((drawState * 1103515245) + 12345) / 2147483648 * 2147483648)) (C := RX6) (T := TX6) (N := 15) hx hb hts in_X6 hown hK hP 0 rfl rfl 14 (by decide) lk_86 (fun _ h9 => h9) rfl dX6_draw_21 ?_
  refine lv_ldc2 (v := 65536) hx hb hown (hts (.constantLong RX6 106 (65536)) (by decide +kernel)) dX6_draw_24 ?_
  refine lv_ldiv hx hb dX6_draw_27 (by decide) ?_
  refine lv_ldc2 (v := 10) hx hb hown (hts (.constantLong RX6 108 (10)) (by decide +kernel)) dX6_draw_28 ?_
  refine lv_lrem hx hb dX6_draw_31 (by decide) ?_
  refine lv_l2i (v := ((((((drawState * 1103515245) + 12345) - ((drawState * 1103515245) + 12345) / 2147483648 * 2147483648) / 65536) - ((((drawState * 1103515245) + 12345) - ((drawState * 1103515245) + 12345) / 2147483648 * 2147483648) / 65536) / 10 * 10) : Int64).toInt32) hx hb dX6_draw_32 rfl ?_
  cases hf
  exact kR _ _ _ _ hP hD hS dX6_draw_33
abbrev w_X6_drawFate (kc : Nat → ClassId) (a0 a1 a2 a3 a4 a5 a6 a7 a8 a9 a10 a11 a12 a13 a14 a15 a16 a17 a18 : Nat) (regions : Int32) (balloons : Int32) (letters : Int32) (loft : Int32) (start : Int32) (seed : Int32) (day : Int32) (wind : Int32) (loft2 : Int32) (lost : Int32) (launchCount : Int32) (drawState : Int64) (risk : Nat → Int32) : va_W := [(a0, .inr (5, [.ref a1, .ref a2, .ref a3, .ref a4, .ref a5, .ref a6, .ref a7, .ref a8, .int regions, .int balloons, .int letters, .int loft, .int start, .int seed])), (a9, .inr (6, [.ref a10, .ref a11, .ref a12, .ref a13, .ref a14, .ref a15, .int day, .int wind, .int loft2, .int lost, .ref a16, .ref a17, .ref a18, .int launchCount, .long drawState])), (a2, .inl (kc 1, 8, .inl risk))]
set_option maxHeartbeats 4000000 in
set_option maxRecDepth 100000 in
theorem c_X6_drawFate (l : Launch) (D : va_G) (kc : Nat → ClassId) (N : Nat) (a0 a1 a2 a3 a4 a5 a6 a7 a8 a9 a10 a11 a12 a13 a14 a15 a16 a17 a18 : Nat) (regions : Int32) (balloons : Int32) (letters : Int32) (loft : Int32) (start : Int32) (seed : Int32) (day : Int32) (wind : Int32) (loft2 : Int32) (lost : Int32) (launchCount : Int32) (drawState : Int64) (risk : Nat → Int32) (x2 : Int32) (r_ : Int32) (drawState' : Int64) (hf : f_X6_drawFate N regions drawState risk x2 = some (r_, drawState')) : MI l yX6_drawFate wsX6_drawFate ({ frames := 1, cells := 0, slots := 0, locals := 21 }) D kc [.ref a9, .ref a0, .int x2] (w_X6_drawFate kc a0 a1 a2 a3 a4 a5 a6 a7 a8 a9 a10 a11 a12 a13 a14 a15 a16 a17 a18 regions balloons letters loft start seed day wind loft2 lost launchCount drawState risk) (w_X6_drawFate kc a0 a1 a2 a3 a4 a5 a6 a7 a8 a9 a10 a11 a12 a13 a14 a15 a16 a17 a18 regions balloons letters loft start seed day wind loft2 lost launchCount drawState' risk) r_ := by
  refine gM_I (cc := cX6_drawFate) (maxL := 3) (by decide) rfl (Nat.le_of_ble_eq_true rfl) ?_
  intro p e s m below meth c A ls Q hx hb hml hown hts hN hK hP hD hA hl kR
  have hS : va_S A s.heap s.heap [] := va_S.rf
  have hl : lv_has ls 3 [(0, .ref a9), (1, .ref a0), (2, .int x2)] := hl
  have in_X5 : ∀ w ∈ u_ws RX5 TX5 14, w ∈ wsX6_drawFate := by decide +kernel
  have lk_140 := hts (.fieldLink RX6 140 "BalloonMail$Siege" "risk" "[I") (by decide +kernel)
  unfold f_X6_drawFate at hf
  refine lv_aload_n hx hb dX6_drawFate_0 rfl (lv_at hl 1 rfl) ?_
  refine lv_iload_n hx hb dX6_drawFate_1 rfl (lv_at hl 2 rfl) ?_
  obtain ⟨r_1, hc, hf⟩ := ob1_some hf
  refine g_VZ (As := [.int x2]) (rest := []) (ws' := (w_X6_drawFate kc a0 a1 a2 a3 a4 a5 a6 a7 a8 a9 a10 a11 a12 a13 a14 a15 a16 a17 a18 regions balloons letters loft start seed day wind loft2 lost launchCount drawState risk)) ⟨hx, hb, hml, hown, hts⟩ hN hK hP hD hS hA (c_X5_hasRegion l D kc N a0 a1 a2 a3 a4 a5 a6 a7 a8 regions balloons letters loft start seed x2 r_1 hc) (cwV 1 hts gX6_drawFate_X5_hasRegion rfl rfl rfl (by decide +kernel) ⟨Nat.le_of_ble_eq_true rfl, Nat.le_of_ble_eq_true rfl⟩) [0] [1, 2] [2, 0, 1] (by exact ⟨rfl, rfl, by decide, rfl⟩) 0 5 rfl rfl rfl rfl hl.1 rfl (Nat.le_of_ble_eq_true rfl) dX6_drawFate_2 ⟨Nat.le_refl _, Nat.le_refl _⟩ (fun H locs hz hP hD hS => ?_)
  have hz_2 := hz
  refine lv_if_ne (tgt := 10) hx hb dX6_drawFate_5 (by decide) (fun hc => ?_) (fun hc => ?_)
  · have hf := o_f hc hf
    refine lv_aload_n hx hb dX6_drawFate_10 rfl (lv_at hl 0 rfl) ?_
    obtain ⟨r_3, drawState_4, hc, hf⟩ := ob2_some hf
    refine g_VI (As := []) (rest := []) (ws' := (w_X6_drawFate kc a0 a1 a2 a3 a4 a5 a6 a7 a8 a9 a10 a11 a12 a13 a14 a15 a16 a17 a18 regions balloons letters loft start seed day wind loft2 lost launchCount drawState_4 risk)) ⟨hx, hb, hml, hown, hts⟩ hN hK hP hD hS hA (c_X6_draw l D kc N a9 a10 a11 a12 a13 a14 a15 a16 a17 a18 day wind loft2 lost launchCount drawState r_3 drawState_4 hc) (cwV 0 hts gX6_drawFate_X6_draw rfl rfl rfl (by decide +kernel) ⟨Nat.le_of_ble_eq_true rfl, Nat.le_of_ble_eq_true rfl⟩) [1] [0, 2] [0, 2, 1] (by exact ⟨rfl, rfl, by decide, rfl⟩) 1 6 rfl rfl rfl rfl hl.1 rfl (Nat.le_of_ble_eq_true rfl) dX6_drawFate_11 ⟨Nat.le_refl _, Nat.le_refl _⟩ (fun H locs hP hD hS => ?_)
    refine lv_aload_n hx hb dX6_drawFate_14 rfl (lv_at hl 1 rfl) ?_
    refine va_get (D := D) (ci := 5) (v := .ref a2) (C := RX5) (T := TX5) (N := 14) hx hb hts in_X5 hown hK hP 0 rfl rfl 1 (by decide) lk_140 (fun _ h9 => h9) rfl dX6_drawFate_15 ?_
    refine lv_iload_n hx hb dX6_drawFate_18 rfl (lv_at hl 2 rfl) ?_
    obtain ⟨hi, hf⟩ := gIx_some hf
    refine va_iald hx hb hK hP 2 1 rfl rfl hi dX6_drawFate_19 ?_
    refine lv_icmp_ge (tgt := 27) hx hb dX6_drawFate_20 (by decide) (fun hc => ?_) (fun hc => ?_)
    · have hf := o_t hc hf
      refine lv_iconst (v := 3) hx hb dX6_drawFate_27 (by decide) ?_
      cases hf
      exact kR _ _ _ _ hP hD hS dX6_drawFate_28
    · have hf := o_f hc hf
      refine lv_iconst (v := 2) hx hb dX6_drawFate_23 (by decide) ?_
      refine lv_goto (tgt := 28) hx hb dX6_drawFate_24 (by decide) ?_
      cases hf
      exact kR _ _ _ _ hP hD hS dX6_drawFate_28
  · have hf := o_t hc hf
    refine lv_iconst (v := 1) hx hb dX6_drawFate_8 (by decide) ?_
    cases hf
    exact kR _ _ _ _ hP hD hS dX6_drawFate_9
abbrev w_X6_release (kc : Nat → ClassId) (a0 a1 a2 a3 a4 a5 a6 a7 a8 a9 a10 a11 a12 a13 a14 a15 a16 a17 a18 : Nat) (regions : Int32) (balloons : Int32) (letters : Int32) (loft : Int32) (start : Int32) (seed : Int32) (day : Int32) (wind : Int32) (loft2 : Int32) (lost : Int32) (launchCount : Int32) (drawState : Int64) (distance : Nat → Int32) (due : Nat → Int32) (pigeons : Nat → Int32) (comeback : Nat → Int32) (homing : Nat → Int32) : va_W := [(a0, .inr (5, [.ref a1, .ref a2, .ref a3, .ref a4, .ref a5, .ref a6, .ref a7, .ref a8, .int regions, .int balloons, .int letters, .int loft, .int start, .int seed])), (a9, .inr (6, [.ref a10, .ref a11, .ref a12, .ref a13, .ref a14, .ref a15, .int day, .int wind, .int loft2, .int lost, .ref a16, .ref a17, .ref a18, .int launchCount, .long drawState])), (a3, .inl (kc 1, 8, .inl distance)), (a17, .inl (kc 1, 10, .inl due)), (a6, .inl (kc 1, 10, .inl pigeons)), (a4, .inl (kc 1, 8, .inl comeback)), (a16, .inl (kc 1, 10, .inl homing))]
set_option maxHeartbeats 4000000 in
set_option maxRecDepth 100000 in
theorem c_X6_release (l : Launch) (D : va_G) (kc : Nat → ClassId) (N : Nat) (a0 a1 a2 a3 a4 a5 a6 a7 a8 a9 a10 a11 a12 a13 a14 a15 a16 a17 a18 : Nat) (regions : Int32) (balloons : Int32) (letters : Int32) (loft : Int32) (start : Int32) (seed : Int32) (day : Int32) (wind : Int32) (loft2 : Int32) (lost : Int32) (launchCount : Int32) (drawState : Int64) (distance : Nat → Int32) (due : Nat → Int32) (pigeons : Nat → Int32) (comeback : Nat → Int32) (homing : Nat → Int32) (x2 : Int32) (x3 : Int32) (lost' : Int32) (drawState' : Int64) (due' : Nat → Int32) (homing' : Nat → Int32) (hf : f_X6_release N regions balloons day lost drawState distance due pigeons comeback homing x2 x3 = some (lost', drawState', due', homing')) : MV l yX6_release wsX6_release ({ frames := 1, cells := 0, slots := 0, locals := 21 }) D kc [.ref a9, .ref a0, .int x2, .int x3] (w_X6_release kc a0 a1 a2 a3 a4 a5 a6 a7 a8 a9 a10 a11 a12 a13 a14 a15 a16 a17 a18 regions balloons letters loft start seed day wind loft2 lost launchCount drawState distance due pigeons comeback homing) (w_X6_release kc a0 a1 a2 a3 a4 a5 a6 a7 a8 a9 a10 a11 a12 a13 a14 a15 a16 a17 a18 regions balloons letters loft start seed day wind loft2 lost' launchCount drawState' distance due' pigeons comeback homing') := by
  refine gM_V (cc := cX6_release) (maxL := 5) (by decide) rfl (Nat.le_of_ble_eq_true rfl) ?_
  intro p e s m below meth c A ls Q hx hb hml hown hts hN hK hP hD hA hl kR
  have hS : va_S A s.heap s.heap [] := va_S.rf
  have hl : lv_has ls 5 [(0, .ref a9), (1, .ref a0), (2, .int x2), (3, .int x3)] := hl
  have in_X6 : ∀ w ∈ u_ws RX6 TX6 15, w ∈ wsX6_release := by decide +kernel
  have lk_41 := hts (.fieldLink RX6 41 "BalloonMail$State" "due" "[I") (by decide +kernel)
  have lk_63 := hts (.fieldLink RX6 63 "BalloonMail$State" "day" "I") (by decide +kernel)
  have in_X5 : ∀ w ∈ u_ws RX5 TX5 14, w ∈ wsX6_release := by decide +kernel
  have lk_143 := hts (.fieldLink RX6 143 "BalloonMail$Siege" "distance" "[I") (by decide +kernel)
  have lk_126 := hts (.fieldLink RX6 126 "BalloonMail$Siege" "pigeons" "[I") (by decide +kernel)
  have lk_146 := hts (.fieldLink RX6 146 "BalloonMail$Siege" "comeback" "[I") (by decide +kernel)
  have lk_80 := hts (.fieldLink RX6 80 "BalloonMail$State" "lost" "I") (by decide +kernel)
  have lk_38 := hts (.fieldLink RX6 38 "BalloonMail$State" "homing" "[I") (by decide +kernel)
  unfold f_X6_release at hf
  refine lv_aload_n hx hb dX6_release_0 rfl (lv_at hl 1 rfl) ?_
  refine lv_iload_n hx hb dX6_release_1 rfl (lv_at hl 2 rfl) ?_
  obtain ⟨r_1, hc, hf⟩ := ob1_some hf
  refine g_VZ (As := [.int x2]) (rest := []) (ws' := (w_X6_release kc a0 a1 a2 a3 a4 a5 a6 a7 a8 a9 a10 a11 a12 a13 a14 a15 a16 a17 a18 regions balloons letters loft start seed day wind loft2 lost launchCount drawState distance due pigeons comeback homing)) ⟨hx, hb, hml, hown, hts⟩ hN hK hP hD hS hA (c_X5_hasBalloon l D kc N a0 a1 a2 a3 a4 a5 a6 a7 a8 regions balloons letters loft start seed x2 r_1 hc) (cwV 1 hts gX6_release_X5_hasBalloon rfl rfl rfl (by decide +kernel) ⟨Nat.le_of_ble_eq_true rfl, Nat.le_of_ble_eq_true rfl⟩) [0] [1, 2, 3, 4, 5, 6] [6, 0, 1, 2, 3, 4, 5] (by exact ⟨rfl, rfl, by decide, rfl⟩) 0 5 rfl rfl rfl rfl hl.1 rfl (Nat.le_of_ble_eq_true rfl) dX6_release_2 ⟨Nat.le_refl _, Nat.le_refl _⟩ (fun H locs hz hP hD hS => ?_)
  have hz_2 := hz
  refine lv_if_eq (tgt := 16) hx hb dX6_release_5 (by decide) (fun hc => ?_) (fun hc => ?_)
  · have hf := o_t hc hf
    cases hf
    exact kR _ _ _ _ hP hD hS dX6_release_16
  · have hf := o_f hc hf
    refine lv_aload_n hx hb dX6_release_8 rfl (lv_at hl 1 rfl) ?_
    refine lv_iload_n hx hb dX6_release_9 rfl (lv_at hl 3 rfl) ?_
    obtain ⟨r_3, hc, hf⟩ := ob1_some hf
    refine g_VZ (As := [.int x3]) (rest := []) (ws' := (w_X6_release kc a0 a1 a2 a3 a4 a5 a6 a7 a8 a9 a10 a11 a12 a13 a14 a15 a16 a17 a18 regions balloons letters loft start seed day wind loft2 lost launchCount drawState distance due pigeons comeback homing)) ⟨hx, hb, hml, hown, hts⟩ hN hK hP hD hS hA (c_X5_hasRegion l D kc N a0 a1 a2 a3 a4 a5 a6 a7 a8 regions balloons letters loft start seed x3 r_3 hc) (cwV 1 hts gX6_release_X5_hasRegion rfl rfl rfl (by decide +kernel) ⟨Nat.le_of_ble_eq_true rfl, Nat.le_of_ble_eq_true rfl⟩) [0] [1, 2, 3, 4, 5, 6] [6, 0, 1, 2, 3, 4, 5] (by exact ⟨rfl, rfl, by decide, rfl⟩) 0 5 rfl rfl rfl rfl hl.1 rfl (Nat.le_of_ble_eq_true rfl) dX6_release_10 ⟨Nat.le_refl _, Nat.le_refl _⟩ (fun H locs hz hP hD hS => ?_)
    have hz_4 := hz
    refine lv_if_ne (tgt := 17) hx hb dX6_release_13 (by decide) (fun hc => ?_) (fun hc => ?_)
    · have hf := o_f hc hf
      refine lv_aload_n hx hb dX6_release_17 rfl (lv_at hl 0 rfl) ?_
      refine va_get (D := D) (ci := 6) (v := .ref a17) (C := RX6) (T := TX6) (N := 15) hx hb hts in_X6 hown hK hP 1 rfl rfl 11 (by decide) lk_41 (fun _ h9 => h9) rfl dX6_release_18 ?_
      refine lv_iload_n hx hb dX6_release_21 rfl (lv_at hl 2 rfl) ?_
      refine lv_aload_n hx hb dX6_release_22 rfl (lv_at hl 0 rfl) ?_
      refine va_get (D := D) (ci := 6) (v := .int day) (C := RX6) (T := TX6) (N := 15) hx hb hts in_X6 hown hK hP 1 rfl rfl 6 (by decide) lk_63 (fun _ h9 => h9) rfl dX6_release_23 ?_
      refine lv_aload_n hx hb dX6_release_26 rfl (lv_at hl 1 rfl) ?_
      refine va_get (D := D) (ci := 5) (v := .ref a3) (C := RX5) (T := TX5) (N := 14) hx hb hts in_X5 hown hK hP 0 rfl rfl 2 (by decide) lk_143 (fun _ h9 => h9) rfl dX6_release_27 ?_
      refine lv_iload_n hx hb dX6_release_30 rfl (lv_at hl 3 rfl) ?_
      obtain ⟨hi, hf⟩ := gIx_some hf
      refine va_iald hx hb hK hP 2 1 rfl rfl hi dX6_release_31 ?_
      refine lv_iadd hx hb dX6_release_32 ?_
      obtain ⟨hi, hf⟩ := gIx_some hf
      refine va_iast hx hb hK hP hD hS 3 1 rfl rfl hi dX6_release_33 (fun H locs hP hD hS => ?_)
      have hP : va_P D vwCl (w_X6_release kc a0 a1 a2 a3 a4 a5 a6 a7 a8 a9 a10 a11 a12 a13 a14 a15 a16 a17 a18 regions balloons letters loft start seed day wind loft2 lost launchCount drawState distance (upd due (x2 : Int32).toNatClampNeg (day + (distance (x3 : Int32).toNatClampNeg))) pigeons comeback homing) H := hP
      have hD : va_D A (w_X6_release kc a0 a1 a2 a3 a4 a5 a6 a7 a8 a9 a10 a11 a12 a13 a14 a15 a16 a17 a18 regions balloons letters loft start seed day wind loft2 lost launchCount drawState distance (upd due (x2 : Int32).toNatClampNeg (day + (distance (x3 : Int32).toNatClampNeg))) pigeons comeback homing) := hD
      refine lv_iconst (v := 0) hx hb dX6_release_34 (by decide) ?_
      refine lv_istore (lv' := [(4, .int 0), (0, .ref a9), (1, .ref a0), (2, .int x2), (3, .int x3)]) hx hb dX6_release_35 hl (by decide) rfl (fun ls hl => ?_)
      have L37 : ∀ (due_f37 : Nat → Int32) (n : Nat) (y4_37 : Int32) (lost_37 : Int32) (drawState_37 : Int64) (homing_37 : Nat → Int32) (y4_37o : Int32) (lost_37o : Int32) (drawState_37o : Int64) (homing_37o : Nat → Int32), f_X6_release_37 N pigeons comeback x2 x3 n y4_37 lost_37 drawState_37 homing_37 = some (y4_37o, lost_37o, drawState_37o, homing_37o) → (∀ (H : Heap) (locs : List Loc) (ls : Array Slot), va_P D vwCl (w_X6_release kc a0 a1 a2 a3 a4 a5 a6 a7 a8 a9 a10 a11 a12 a13 a14 a15 a16 a17 a18 regions balloons letters loft start seed day wind loft2 lost_37o launchCount drawState_37o distance due_f37 pigeons comeback homing_37o) H → va_D A (w_X6_release kc a0 a1 a2 a3 a4 a5 a6 a7 a8 a9 a10 a11 a12 a13 a14 a15 a16 a17 a18 regions balloons letters loft start seed day wind loft2 lost_37o launchCount drawState_37o distance due_f37 pigeons comeback homing_37o) → va_S A s.heap H locs → lv_has ls 5 [(0, .ref a9), (1, .ref a0), (2, .int x2), (3, .int x3), (4, .int y4_37o)] → W p l e ({ frames := 1, cells := 0, slots := 0, locals := 21 }) s m (([.ref a9, .ref a0, .int x2, .int x3] : List Value).toArray) below meth c H locs 0 0 Q (F0 m 90 ls [])) → ∀ (H : Heap) (locs : List Loc) (ls : Array Slot), va_P D vwCl (w_X6_release kc a0 a1 a2 a3 a4 a5 a6 a7 a8 a9 a10 a11 a12 a13 a14 a15 a16 a17 a18 regions balloons letters loft start seed day wind loft2 lost_37 launchCount drawState_37 distance due_f37 pigeons comeback homing_37) H → va_D A (w_X6_release kc a0 a1 a2 a3 a4 a5 a6 a7 a8 a9 a10 a11 a12 a13 a14 a15 a16 a17 a18 regions balloons letters loft start seed day wind loft2 lost_37 launchCount drawState_37 distance due_f37 pigeons comeback homing_37) → va_S A s.heap H locs → lv_has ls 5 [(0, .ref a9), (1, .ref a0), (2, .int x2), (3, .int x3), (4, .int y4_37)] → W p l e ({ frames := 1, cells := 0, slots := 0, locals := 21 }) s m (([.ref a9, .ref a0, .int x2, .int x3] : List Value).toArray) below meth c H locs 0 0 Q (F0 m 37 ls []) := by
        intro due_f37 n
        induction n with
        | zero => intro _ _ _ _ _ _ _ _ hf; rw [f_X6_release_37.eq_1] at hf; cases hf
        | succ n ih =>
          intro y4_37 lost_37 drawState_37 homing_37 y4_37o lost_37o drawState_37o homing_37o hf hk H locs ls hP hD hS hl
          rw [f_X6_release_37.eq_2] at hf
          refine lv_iload hx hb dX6_release_37 (lv_at hl 4 rfl) ?_
          refine lv_aload_n hx hb dX6_release_39 rfl (lv_at hl 1 rfl) ?_
          refine va_get (D := D) (ci := 5) (v := .ref a6) (C := RX5) (T := TX5) (N := 14) hx hb hts in_X5 hown hK hP 0 rfl rfl 5 (by decide) lk_126 (fun _ h9 => h9) rfl dX6_release_40 ?_
          refine lv_iload_n hx hb dX6_release_43 rfl (lv_at hl 2 rfl) ?_
          obtain ⟨hi, hf⟩ := gIx_some hf
          refine va_iald hx hb hK hP 4 1 rfl rfl hi dX6_release_44 ?_
          refine lv_icmp_ge (tgt := 90) hx hb dX6_release_45 (by decide) (fun hc => ?_) (fun hc => ?_)
          · have hf := o_t hc hf
            cases hf
            exact hk _ _ _ hP hD hS (lv_sub hl [0, 1, 2, 3, 4] rfl)
          · have hf := o_f hc hf
            refine lv_aload_n hx hb dX6_release_48 rfl (lv_at hl 0 rfl) ?_
            obtain ⟨r_5, drawState_6, hc, hf⟩ := ob2_some hf
            refine g_VI (As := []) (rest := []) (ws' := (w_X6_release kc a0 a1 a2 a3 a4 a5 a6 a7 a8 a9 a10 a11 a12 a13 a14 a15 a16 a17 a18 regions balloons letters loft start seed day wind loft2 lost_37 launchCount drawState_6 distance due_f37 pigeons comeback homing_37)) ⟨hx, hb, hml, hown, hts⟩ hN hK hP hD hS hA (c_X6_draw l D kc N a9 a10 a11 a12 a13 a14 a15 a16 a17 a18 day wind loft2 lost_37 launchCount drawState_37 r_5 drawState_6 hc) (cwV 0 hts gX6_release_X6_draw rfl rfl rfl (by decide +kernel) ⟨Nat.le_of_ble_eq_true rfl, Nat.le_of_ble_eq_true rfl⟩) [1] [0, 2, 3, 4, 5, 6] [0, 6, 1, 2, 3, 4, 5] (by exact ⟨rfl, rfl, by decide, rfl⟩) 1 6 rfl rfl rfl rfl hl.1 rfl (Nat.le_of_ble_eq_true rfl) dX6_release_49 ⟨Nat.le_refl _, Nat.le_refl _⟩ (fun H locs hP hD hS => ?_)
            refine lv_aload_n hx hb dX6_release_52 rfl (lv_at hl 1 rfl) ?_
            refine va_get (D := D) (ci := 5) (v := .ref a4) (C := RX5) (T := TX5) (N := 14) hx hb hts in_X5 hown hK hP 0 rfl rfl 3 (by decide) lk_146 (fun _ h9 => h9) rfl dX6_release_53 ?_
            refine lv_iload_n hx hb dX6_release_56 rfl (lv_at hl 3 rfl) ?_
            obtain ⟨hi, hf⟩ := gIx_some hf
            refine va_iald hx hb hK hP 5 1 rfl rfl hi dX6_release_57 ?_
            refine lv_icmp_ge (tgt := 74) hx hb dX6_release_58 (by decide) (fun hc => ?_) (fun hc => ?_)
            · have hf := o_t hc hf
              refine lv_aload_n hx hb dX6_release_74 rfl (lv_at hl 0 rfl) ?_
              refine lv_dup hx hb dX6_release_75 rfl ?_
              refine va_get (D := D) (ci := 6) (v := .int lost_37) (C := RX6) (T := TX6) (N := 15) hx hb hts in_X6 hown hK hP 1 rfl rfl 9 (by decide) lk_80 (fun _ h9 => h9) rfl dX6_release_76 ?_
              refine lv_iconst (v := 1) hx hb dX6_release_79 (by decide) ?_
              refine lv_iadd hx hb dX6_release_80 ?_
              refine va_put (D := D) (ci := 6) (v := .int (lost_37 + 1)) (ty := .int) (C := RX6) (T := TX6) (N := 15) hx hb hts in_X6 tyX6 tyX6_ok nmX6 hown hK hP hD hS 1 rfl rfl 9 (by decide) lk_80 (fun _ h9 => h9) rfl (by decide +kernel) rfl rfl (Nat.le_of_ble_eq_true rfl) dX6_release_81 (fun H locs hP hD hS => ?_)
              have hP : va_P D vwCl (w_X6_release kc a0 a1 a2 a3 a4 a5 a6 a7 a8 a9 a10 a11 a12 a13 a14 a15 a16 a17 a18 regions balloons letters loft start seed day wind loft2 (lost_37 + 1) launchCount drawState_6 distance due_f37 pigeons comeback homing_37) H := hP
              have hD : va_D A (w_X6_release kc a0 a1 a2 a3 a4 a5 a6 a7 a8 a9 a10 a11 a12 a13 a14 a15 a16 a17 a18 regions balloons letters loft start seed day wind loft2 (lost_37 + 1) launchCount drawState_6 distance due_f37 pigeons comeback homing_37) := hD
              refine lv_iinc (v := (y4_37 + 1)) (lv' := [(4, .int (y4_37 + 1)), (0, .ref a9), (1, .ref a0), (2, .int x2), (3, .int x3)]) hx hb dX6_release_84 hl (k := 4) rfl (by rfl) (by decide) rfl (fun ls hl => ?_)
              refine lv_goto (tgt := 37) hx hb dX6_release_87 (by decide) ?_
              exact ih _ _ _ _ _ _ _ _ hf hk _ _ _ hP hD hS (lv_sub hl [1, 2, 3, 4, 0] rfl)
            · have hf := o_f hc hf
              refine lv_aload_n hx hb dX6_release_61 rfl (lv_at hl 0 rfl) ?_
              refine va_get (D := D) (ci := 6) (v := .ref a16) (C := RX6) (T := TX6) (N := 15) hx hb hts in_X6 hown hK hP 1 rfl rfl 10 (by decide) lk_38 (fun _ h9 => h9) rfl dX6_release_62 ?_
              refine lv_iload_n hx hb dX6_release_65 rfl (lv_at hl 2 rfl) ?_
              refine lv_dup2_11 hx hb dX6_release_66 rfl rfl ?_
              obtain ⟨hi, hf⟩ := gIx_some hf
              refine va_iald hx hb hK hP 6 1 rfl rfl hi dX6_release_67 ?_
              refine lv_iconst (v := 1) hx hb dX6_release_68 (by decide) ?_
              refine lv_iadd hx hb dX6_release_69 ?_
              obtain ⟨hi, hf⟩ := gIx_some hf
              refine va_iast hx hb hK hP hD hS 6 1 rfl rfl hi dX6_release_70 (fun H locs hP hD hS => ?_)
              have hP : va_P D vwCl (w_X6_release kc a0 a1 a2 a3 a4 a5 a6 a7 a8 a9 a10 a11 a12 a13 a14 a15 a16 a17 a18 regions balloons letters loft start seed day wind loft2 lost_37 launchCount drawState_6 distance due_f37 pigeons comeback (upd homing_37 (x2 : Int32).toNatClampNeg ((homing_37 (x2 : Int32).toNatClampNeg) + 1))) H := hP
              have hD : va_D A (w_X6_release kc a0 a1 a2 a3 a4 a5 a6 a7 a8 a9 a10 a11 a12 a13 a14 a15 a16 a17 a18 regions balloons letters loft start seed day wind loft2 lost_37 launchCount drawState_6 distance due_f37 pigeons comeback (upd homing_37 (x2 : Int32).toNatClampNeg ((homing_37 (x2 : Int32).toNatClampNeg) + 1))) := hD
              refine lv_goto (tgt := 84) hx hb dX6_release_71 (by decide) ?_
              refine lv_iinc (v := (y4_37 + 1)) (lv' := [(4, .int (y4_37 + 1)), (0, .ref a9), (1, .ref a0), (2, .int x2), (3, .int x3)]) hx hb dX6_release_84 hl (k := 4) rfl (by rfl) (by decide) rfl (fun ls hl => ?_)
              refine lv_goto (tgt := 37) hx hb dX6_release_87 (by decide) ?_
              exact ih _ _ _ _ _ _ _ _ hf hk _ _ _ hP hD hS (lv_sub hl [1, 2, 3, 4, 0] rfl)
      obtain ⟨y4_37o, lost_37o, drawState_37o, homing_37o, hc, hf⟩ := ob4_some hf
      refine L37 (upd due (x2 : Int32).toNatClampNeg (day + (distance (x3 : Int32).toNatClampNeg))) N _ _ _ _ _ _ _ _ hc (fun H locs ls hP hD hS hl => ?_) _ _ _ hP hD hS (lv_sub hl [1, 2, 3, 4, 0] rfl)
      cases hf
      exact kR _ _ _ _ hP hD hS dX6_release_90
    · have hf := o_t hc hf
      cases hf
      exact kR _ _ _ _ hP hD hS dX6_release_16
abbrev w_X6_fly (kc : Nat → ClassId) (a0 a1 a2 a3 a4 a5 a6 a7 a8 a9 a10 a11 a12 a13 a14 a15 a16 a17 a18 a19 a20 a21 a22 a23 a24 a25 a26 a27 : Nat) (regions : Int32) (balloons : Int32) (letters : Int32) (loft : Int32) (start : Int32) (seed : Int32) (day : Int32) (wind : Int32) (loft2 : Int32) (lost : Int32) (launchCount : Int32) (drawState : Int64) (count : Int32) (turnCount : Int32) (aimCount : Nat → Int32) (aim : Nat → Int32) (land : Nat → Int32) (risk : Nat → Int32) (launched : Nat → Int32) (balloonState : Nat → Int32) (balloonRegion : Nat → Int32) (cargo : Nat → Int32) (letters2 : Nat → Int32) (pigeons : Nat → Int32) (count2 : Int32) (kind : Nat → Int32) (number : Nat → Int32) (day2 : Nat → Int32) (distance : Nat → Int32) (due : Nat → Int32) (comeback : Nat → Int32) (homing : Nat → Int32) : va_W := [(a0, .inr (5, [.ref a1, .ref a2, .ref a3, .ref a4, .ref a5, .ref a6, .ref a7, .ref a8, .int regions, .int balloons, .int letters, .int loft, .int start, .int seed])), (a9, .inr (6, [.ref a10, .ref a11, .ref a12, .ref a13, .ref a14, .ref a15, .int day, .int wind, .int loft2, .int lost, .ref a16, .ref a17, .ref a18, .int launchCount, .long drawState])), (a1, .inr (7, [.int count, .int turnCount, .ref a19, .ref a20, .ref a21, .ref a22, .ref a23, .ref a24])), (a23, .inl (kc 1, 6, .inl aimCount)), (a24, .inl (kc 1, 48, .inl aim)), (a22, .inl (kc 1, 54, .inl land)), (a2, .inl (kc 1, 8, .inl risk)), (a18, .inl (kc 1, 10, .inl launched)), (a11, .inl (kc 1, 10, .inl balloonState)), (a12, .inl (kc 1, 10, .inl balloonRegion)), (a13, .inl (kc 1, 10, .inl cargo)), (a14, .inl (kc 1, 4, .inl letters2)), (a6, .inl (kc 1, 10, .inl pigeons)), (a10, .inr (1, [.ref a25, .ref a26, .ref a27, .int count2])), (a25, .inl (kc 1, 16, .inl kind)), (a26, .inl (kc 1, 16, .inl number)), (a27, .inl (kc 1, 16, .inl day2)), (a3, .inl (kc 1, 8, .inl distance)), (a17, .inl (kc 1, 10, .inl due)), (a4, .inl (kc 1, 8, .inl comeback)), (a16, .inl (kc 1, 10, .inl homing))]
set_option maxHeartbeats 4000000 in
set_option maxRecDepth 100000 in
theorem c_X6_fly (l : Launch) (D : va_G) (kc : Nat → ClassId) (N : Nat) (a0 a1 a2 a3 a4 a5 a6 a7 a8 a9 a10 a11 a12 a13 a14 a15 a16 a17 a18 a19 a20 a21 a22 a23 a24 a25 a26 a27 : Nat) (regions : Int32) (balloons : Int32) (letters : Int32) (loft : Int32) (start : Int32) (seed : Int32) (day : Int32) (wind : Int32) (loft2 : Int32) (lost : Int32) (launchCount : Int32) (drawState : Int64) (count : Int32) (turnCount : Int32) (aimCount : Nat → Int32) (aim : Nat → Int32) (land : Nat → Int32) (risk : Nat → Int32) (launched : Nat → Int32) (balloonState : Nat → Int32) (balloonRegion : Nat → Int32) (cargo : Nat → Int32) (letters2 : Nat → Int32) (pigeons : Nat → Int32) (count2 : Int32) (kind : Nat → Int32) (number : Nat → Int32) (day2 : Nat → Int32) (distance : Nat → Int32) (due : Nat → Int32) (comeback : Nat → Int32) (homing : Nat → Int32) (x2 : Int32) (x3 : Int32) (r_ : Int32) (loft2' : Int32) (lost' : Int32) (launchCount' : Int32) (drawState' : Int64) (launched' : Nat → Int32) (balloonState' : Nat → Int32) (balloonRegion' : Nat → Int32) (cargo' : Nat → Int32) (letters2' : Nat → Int32) (count2' : Int32) (kind' : Nat → Int32) (number' : Nat → Int32) (day2' : Nat → Int32) (due' : Nat → Int32) (homing' : Nat → Int32) (hf : f_X6_fly N regions balloons day wind loft2 lost launchCount drawState count aimCount aim land risk launched balloonState balloonRegion cargo letters2 pigeons count2 kind number day2 distance due comeback homing x2 x3 = some (r_, loft2', lost', launchCount', drawState', launched', balloonState', balloonRegion', cargo', letters2', count2', kind', number', day2', due', homing')) : MI l yX6_fly wsX6_fly ({ frames := 2, cells := 0, slots := 0, locals := 48 }) D kc [.ref a9, .ref a0, .int x2, .int x3] (w_X6_fly kc a0 a1 a2 a3 a4 a5 a6 a7 a8 a9 a10 a11 a12 a13 a14 a15 a16 a17 a18 a19 a20 a21 a22 a23 a24 a25 a26 a27 regions balloons letters loft start seed day wind loft2 lost launchCount drawState count turnCount aimCount aim land risk launched balloonState balloonRegion cargo letters2 pigeons count2 kind number day2 distance due comeback homing) (w_X6_fly kc a0 a1 a2 a3 a4 a5 a6 a7 a8 a9 a10 a11 a12 a13 a14 a15 a16 a17 a18 a19 a20 a21 a22 a23 a24 a25 a26 a27 regions balloons letters loft start seed day wind loft2' lost' launchCount' drawState' count turnCount aimCount aim land risk launched' balloonState' balloonRegion' cargo' letters2' pigeons count2' kind' number' day2' distance due' comeback homing') r_ := by
  refine gM_I (cc := cX6_fly) (maxL := 6) (by decide) rfl (Nat.le_of_ble_eq_true rfl) ?_
  intro p e s m below meth c A ls Q hx hb hml hown hts hN hK hP hD hA hl kR
  have hS : va_S A s.heap s.heap [] := va_S.rf
  have hl : lv_has ls 6 [(0, .ref a9), (1, .ref a0), (2, .int x2), (3, .int x3)] := hl
  have in_X6 : ∀ w ∈ u_ws RX6 TX6 15, w ∈ wsX6_fly := by decide +kernel
  have lk_60 := hts (.fieldLink RX6 60 "BalloonMail$State" "launchCount" "I") (by decide +kernel)
  have in_X5 : ∀ w ∈ u_ws RX5 TX5 14, w ∈ wsX6_fly := by decide +kernel
  have lk_66 := hts (.fieldLink RX6 66 "BalloonMail$Siege" "winds" "LBalloonMail$Winds;") (by decide +kernel)
  have lk_34 := hts (.fieldLink RX6 34 "BalloonMail$State" "wind" "I") (by decide +kernel)
  have lk_44 := hts (.fieldLink RX6 44 "BalloonMail$State" "launched" "[I") (by decide +kernel)
  have lk_18 := hts (.fieldLink RX6 18 "BalloonMail$State" "balloonState" "[I") (by decide +kernel)
  have lk_22 := hts (.fieldLink RX6 22 "BalloonMail$State" "balloonRegion" "[I") (by decide +kernel)
  have lk_25 := hts (.fieldLink RX6 25 "BalloonMail$State" "cargo" "[I") (by decide +kernel)
  have lk_28 := hts (.fieldLink RX6 28 "BalloonMail$State" "letters" "[I") (by decide +kernel)
  have lk_79 := hts (.fieldLink RX6 79 "BalloonMail$State" "loft" "I") (by decide +kernel)
  have lk_126 := hts (.fieldLink RX6 126 "BalloonMail$Siege" "pigeons" "[I") (by decide +kernel)
  have lk_12 := hts (.fieldLink RX6 12 "BalloonMail$State" "journal" "LBalloonMail$Journal;") (by decide +kernel)
  have lk_63 := hts (.fieldLink RX6 63 "BalloonMail$State" "day" "I") (by decide +kernel)
  have lk_80 := hts (.fieldLink RX6 80 "BalloonMail$State" "lost" "I") (by decide +kernel)
  have J122 : ∀ (y4_122 : Int32) (y5_122 : Int32) (launchCount_122 : Int32) (drawState_122 : Int64) (launched_122 : Nat → Int32) (balloonState_122 : Nat → Int32) (balloonRegion_122 : Nat → Int32) (cargo_122 : Nat → Int32) (letters2_122 : Nat → Int32) (k1_122 : Int32), f_X6_fly_j122 N regions balloons day loft2 lost pigeons count2 kind number day2 distance due comeback homing x2 x3 y4_122 y5_122 launchCount_122 drawState_122 launched_122 balloonState_122 balloonRegion_122 cargo_122 letters2_122 k1_122 = some (r_, loft2', lost', launchCount', drawState', launched', balloonState', balloonRegion', cargo', letters2', count2', kind', number', day2', due', homing') → ∀ (H : Heap) (locs : List Loc) (ls : Array Slot), va_P D vwCl (w_X6_fly kc a0 a1 a2 a3 a4 a5 a6 a7 a8 a9 a10 a11 a12 a13 a14 a15 a16 a17 a18 a19 a20 a21 a22 a23 a24 a25 a26 a27 regions balloons letters loft start seed day wind loft2 lost launchCount_122 drawState_122 count turnCount aimCount aim land risk launched_122 balloonState_122 balloonRegion_122 cargo_122 letters2_122 pigeons count2 kind number day2 distance due comeback homing) H → va_D A (w_X6_fly kc a0 a1 a2 a3 a4 a5 a6 a7 a8 a9 a10 a11 a12 a13 a14 a15 a16 a17 a18 a19 a20 a21 a22 a23 a24 a25 a26 a27 regions balloons letters loft start seed day wind loft2 lost launchCount_122 drawState_122 count turnCount aimCount aim land risk launched_122 balloonState_122 balloonRegion_122 cargo_122 letters2_122 pigeons count2 kind number day2 distance due comeback homing) → va_S A s.heap H locs → lv_has ls 6 [(0, .ref a9), (1, .ref a0), (2, .int x2), (3, .int x3), (4, .int y4_122), (5, .int y5_122)] → W p l e ({ frames := 2, cells := 0, slots := 0, locals := 48 }) s m (([.ref a9, .ref a0, .int x2, .int x3] : List Value).toArray) below meth c H locs 0 0 Q (F0 m 122 ls [.int k1_122, .ref a14]) := by
    clear hf
    intro y4_122 y5_122 launchCount_122 drawState_122 launched_122 balloonState_122 balloonRegion_122 cargo_122 letters2_122 k1_122 hf H locs ls hP hD hS hl
    unfold f_X6_fly_j122 at hf
    refine lv_dup2_11 hx hb dX6_fly_122 rfl rfl ?_
    obtain ⟨hi, hf⟩ := gIx_some hf
    refine va_iald hx hb hK hP 11 1 rfl rfl hi dX6_fly_123 ?_
    refine lv_iload_n hx hb dX6_fly_124 rfl (lv_at hl 3 rfl) ?_
    refine lv_ior hx hb dX6_fly_125 ?_
    obtain ⟨hi, hf⟩ := gIx_some hf
    refine va_iast hx hb hK hP hD hS 11 1 rfl rfl hi dX6_fly_126 (fun H locs hP hD hS => ?_)
    have hP : va_P D vwCl (w_X6_fly kc a0 a1 a2 a3 a4 a5 a6 a7 a8 a9 a10 a11 a12 a13 a14 a15 a16 a17 a18 a19 a20 a21 a22 a23 a24 a25 a26 a27 regions balloons letters loft start seed day wind loft2 lost launchCount_122 drawState_122 count turnCount aimCount aim land risk launched_122 balloonState_122 balloonRegion_122 cargo_122 (upd letters2_122 (k1_122 : Int32).toNatClampNeg ((letters2_122 (k1_122 : Int32).toNatClampNeg) ||| x3)) pigeons count2 kind number day2 distance due comeback homing) H := hP
    have hD : va_D A (w_X6_fly kc a0 a1 a2 a3 a4 a5 a6 a7 a8 a9 a10 a11 a12 a13 a14 a15 a16 a17 a18 a19 a20 a21 a22 a23 a24 a25 a26 a27 regions balloons letters loft start seed day wind loft2 lost launchCount_122 drawState_122 count turnCount aimCount aim land risk launched_122 balloonState_122 balloonRegion_122 cargo_122 (upd letters2_122 (k1_122 : Int32).toNatClampNeg ((letters2_122 (k1_122 : Int32).toNatClampNeg) ||| x3)) pigeons count2 kind number day2 distance due comeback homing) := hD
    refine lv_aload_n hx hb dX6_fly_127 rfl (lv_at hl 0 rfl) ?_
    refine lv_dup hx hb dX6_fly_128 rfl ?_
    refine va_get (D := D) (ci := 6) (v := .int loft2) (C := RX6) (T := TX6) (N := 15) hx hb hts in_X6 hown hK hP 1 rfl rfl 8 (by decide) lk_79 (fun _ h9 => h9) rfl dX6_fly_129 ?_
    refine lv_aload_n hx hb dX6_fly_132 rfl (lv_at hl 1 rfl) ?_
    refine va_get (D := D) (ci := 5) (v := .ref a6) (C := RX5) (T := TX5) (N := 14) hx hb hts in_X5 hown hK hP 0 rfl rfl 5 (by decide) lk_126 (fun _ h9 => h9) rfl dX6_fly_133 ?_
    refine lv_iload_n hx hb dX6_fly_136 rfl (lv_at hl 2 rfl) ?_
    obtain ⟨hi, hf⟩ := gIx_some hf
    refine va_iald hx hb hK hP 12 1 rfl rfl hi dX6_fly_137 ?_
    refine lv_isub hx hb dX6_fly_138 ?_
    refine va_put (D := D) (ci := 6) (v := .int (loft2 - (pigeons (x2 : Int32).toNatClampNeg))) (ty := .int) (C := RX6) (T := TX6) (N := 15) hx hb hts in_X6 tyX6 tyX6_ok nmX6 hown hK hP hD hS 1 rfl rfl 8 (by decide) lk_79 (fun _ h9 => h9) rfl (by decide +kernel) rfl rfl (Nat.le_of_ble_eq_true rfl) dX6_fly_139 (fun H locs hP hD hS => ?_)
    have hP : va_P D vwCl (w_X6_fly kc a0 a1 a2 a3 a4 a5 a6 a7 a8 a9 a10 a11 a12 a13 a14 a15 a16 a17 a18 a19 a20 a21 a22 a23 a24 a25 a26 a27 regions balloons letters loft start seed day wind (loft2 - (pigeons (x2 : Int32).toNatClampNeg)) lost launchCount_122 drawState_122 count turnCount aimCount aim land risk launched_122 balloonState_122 balloonRegion_122 cargo_122 (upd letters2_122 (k1_122 : Int32).toNatClampNeg ((letters2_122 (k1_122 : Int32).toNatClampNeg) ||| x3)) pigeons count2 kind number day2 distance due comeback homing) H := hP
    have hD : va_D A (w_X6_fly kc a0 a1 a2 a3 a4 a5 a6 a7 a8 a9 a10 a11 a12 a13 a14 a15 a16 a17 a18 a19 a20 a21 a22 a23 a24 a25 a26 a27 regions balloons letters loft start seed day wind (loft2 - (pigeons (x2 : Int32).toNatClampNeg)) lost launchCount_122 drawState_122 count turnCount aimCount aim land risk launched_122 balloonState_122 balloonRegion_122 cargo_122 (upd letters2_122 (k1_122 : Int32).toNatClampNeg ((letters2_122 (k1_122 : Int32).toNatClampNeg) ||| x3)) pigeons count2 kind number day2 distance due comeback homing) := hD
    refine lv_aload_n hx hb dX6_fly_142 rfl (lv_at hl 0 rfl) ?_
    refine va_get (D := D) (ci := 6) (v := .ref a10) (C := RX6) (T := TX6) (N := 15) hx hb hts in_X6 hown hK hP 1 rfl rfl 0 (by decide) lk_12 (fun _ h9 => h9) rfl dX6_fly_143 ?_
    refine lv_iload hx hb dX6_fly_146 (lv_at hl 5 rfl) ?_
    refine lv_iload_n hx hb dX6_fly_148 rfl (lv_at hl 2 rfl) ?_
    refine lv_aload_n hx hb dX6_fly_149 rfl (lv_at hl 0 rfl) ?_
    refine va_get (D := D) (ci := 6) (v := .int day) (C := RX6) (T := TX6) (N := 15) hx hb hts in_X6 hown hK hP 1 rfl rfl 6 (by decide) lk_63 (fun _ h9 => h9) rfl dX6_fly_150 ?_
    obtain ⟨count2_8, kind_9, number_10, day2_11, hc, hf⟩ := ob4_some hf
    refine g_VV (As := [.int y5_122, .int x2, .int day]) (rest := []) (ws' := (w_X6_fly kc a0 a1 a2 a3 a4 a5 a6 a7 a8 a9 a10 a11 a12 a13 a14 a15 a16 a17 a18 a19 a20 a21 a22 a23 a24 a25 a26 a27 regions balloons letters loft start seed day wind (loft2 - (pigeons (x2 : Int32).toNatClampNeg)) lost launchCount_122 drawState_122 count turnCount aimCount aim land risk launched_122 balloonState_122 balloonRegion_122 cargo_122 (upd letters2_122 (k1_122 : Int32).toNatClampNeg ((letters2_122 (k1_122 : Int32).toNatClampNeg) ||| x3)) pigeons count2_8 kind_9 number_10 day2_11 distance due comeback homing)) ⟨hx, hb, hml, hown, hts⟩ hN hK hP hD hS hA (c_X1_add l D kc N a10 a25 a26 a27 count2 kind number day2 y5_122 x2 day count2_8 kind_9 number_10 day2_11 hc) (cwV 3 hts gX6_fly_X1_add rfl rfl rfl (by decide +kernel) ⟨Nat.le_of_ble_eq_true rfl, Nat.le_of_ble_eq_true rfl⟩) [13, 14, 15, 16] [0, 1, 2, 3, 4, 5, 6, 7, 8, 9, 10, 11, 12, 17, 18, 19, 20] [0, 1, 2, 3, 4, 5, 6, 7, 8, 9, 10, 11, 12, 17, 18, 19, 20, 13, 14, 15, 16] (by exact ⟨rfl, rfl, by decide, rfl⟩) 13 1 rfl rfl rfl rfl hl.1 rfl (Nat.le_of_ble_eq_true rfl) dX6_fly_153 ⟨Nat.le_refl _, Nat.le_refl _⟩ (fun H locs hP hD hS => ?_)
    refine lv_iload hx hb dX6_fly_156 (lv_at hl 5 rfl) ?_
    refine lv_iconst (v := 3) hx hb dX6_fly_158 (by decide) ?_
    refine lv_icmp_ne (tgt := 173) hx hb dX6_fly_159 (by decide) (fun hc => ?_) (fun hc => ?_)
    · have hf := o_f hc hf
      refine lv_aload_n hx hb dX6_fly_173 rfl (lv_at hl 0 rfl) ?_
      refine lv_dup hx hb dX6_fly_174 rfl ?_
      refine va_get (D := D) (ci := 6) (v := .int lost) (C := RX6) (T := TX6) (N := 15) hx hb hts in_X6 hown hK hP 1 rfl rfl 9 (by decide) lk_80 (fun _ h9 => h9) rfl dX6_fly_175 ?_
      refine lv_aload_n hx hb dX6_fly_178 rfl (lv_at hl 1 rfl) ?_
      refine va_get (D := D) (ci := 5) (v := .ref a6) (C := RX5) (T := TX5) (N := 14) hx hb hts in_X5 hown hK hP 0 rfl rfl 5 (by decide) lk_126 (fun _ h9 => h9) rfl dX6_fly_179 ?_
      refine lv_iload_n hx hb dX6_fly_182 rfl (lv_at hl 2 rfl) ?_
      obtain ⟨hi, hf⟩ := gIx_some hf
      refine va_iald hx hb hK hP 12 1 rfl rfl hi dX6_fly_183 ?_
      refine lv_iadd hx hb dX6_fly_184 ?_
      refine va_put (D := D) (ci := 6) (v := .int (lost + (pigeons (x2 : Int32).toNatClampNeg))) (ty := .int) (C := RX6) (T := TX6) (N := 15) hx hb hts in_X6 tyX6 tyX6_ok nmX6 hown hK hP hD hS 1 rfl rfl 9 (by decide) lk_80 (fun _ h9 => h9) rfl (by decide +kernel) rfl rfl (Nat.le_of_ble_eq_true rfl) dX6_fly_185 (fun H locs hP hD hS => ?_)
      have hP : va_P D vwCl (w_X6_fly kc a0 a1 a2 a3 a4 a5 a6 a7 a8 a9 a10 a11 a12 a13 a14 a15 a16 a17 a18 a19 a20 a21 a22 a23 a24 a25 a26 a27 regions balloons letters loft start seed day wind (loft2 - (pigeons (x2 : Int32).toNatClampNeg)) (lost + (pigeons (x2 : Int32).toNatClampNeg)) launchCount_122 drawState_122 count turnCount aimCount aim land risk launched_122 balloonState_122 balloonRegion_122 cargo_122 (upd letters2_122 (k1_122 : Int32).toNatClampNeg ((letters2_122 (k1_122 : Int32).toNatClampNeg) ||| x3)) pigeons count2_8 kind_9 number_10 day2_11 distance due comeback homing) H := hP
      have hD : va_D A (w_X6_fly kc a0 a1 a2 a3 a4 a5 a6 a7 a8 a9 a10 a11 a12 a13 a14 a15 a16 a17 a18 a19 a20 a21 a22 a23 a24 a25 a26 a27 regions balloons letters loft start seed day wind (loft2 - (pigeons (x2 : Int32).toNatClampNeg)) (lost + (pigeons (x2 : Int32).toNatClampNeg)) launchCount_122 drawState_122 count turnCount aimCount aim land risk launched_122 balloonState_122 balloonRegion_122 cargo_122 (upd letters2_122 (k1_122 : Int32).toNatClampNeg ((letters2_122 (k1_122 : Int32).toNatClampNeg) ||| x3)) pigeons count2_8 kind_9 number_10 day2_11 distance due comeback homing) := hD
      refine lv_iload hx hb dX6_fly_188 (lv_at hl 5 rfl) ?_
      cases hf
      exact kR _ _ _ _ hP hD hS dX6_fly_190
    · have hf := o_t hc hf
      refine lv_aload_n hx hb dX6_fly_162 rfl (lv_at hl 0 rfl) ?_
      refine lv_aload_n hx hb dX6_fly_163 rfl (lv_at hl 1 rfl) ?_
      refine lv_iload_n hx hb dX6_fly_164 rfl (lv_at hl 2 rfl) ?_
      refine lv_iload hx hb dX6_fly_165 (lv_at hl 4 rfl) ?_
      obtain ⟨lost_12, drawState_13, due_14, homing_15, hc, hf⟩ := ob4_some hf
      refine g_VV (As := [.ref a0, .int x2, .int y4_122]) (rest := []) (ws' := (w_X6_fly kc a0 a1 a2 a3 a4 a5 a6 a7 a8 a9 a10 a11 a12 a13 a14 a15 a16 a17 a18 a19 a20 a21 a22 a23 a24 a25 a26 a27 regions balloons letters loft start seed day wind (loft2 - (pigeons (x2 : Int32).toNatClampNeg)) lost_12 launchCount_122 drawState_13 count turnCount aimCount aim land risk launched_122 balloonState_122 balloonRegion_122 cargo_122 (upd letters2_122 (k1_122 : Int32).toNatClampNeg ((letters2_122 (k1_122 : Int32).toNatClampNeg) ||| x3)) pigeons count2_8 kind_9 number_10 day2_11 distance due_14 comeback homing_15)) ⟨hx, hb, hml, hown, hts⟩ hN hK hP hD hS hA (c_X6_release l D kc N a0 a1 a2 a3 a4 a5 a6 a7 a8 a9 a10 a11 a12 a13 a14 a15 a16 a17 a18 regions balloons letters loft start seed day wind (loft2 - (pigeons (x2 : Int32).toNatClampNeg)) lost launchCount_122 drawState_122 distance due pigeons comeback homing x2 y4_122 lost_12 drawState_13 due_14 homing_15 hc) (cwV 3 hts gX6_fly_X6_release rfl rfl rfl (by decide +kernel) ⟨Nat.le_of_ble_eq_true rfl, Nat.le_of_ble_eq_true rfl⟩) [0, 1, 17, 18, 12, 19, 20] [2, 3, 4, 5, 6, 7, 8, 9, 10, 11, 13, 14, 15, 16] [14, 15, 0, 1, 2, 3, 4, 5, 6, 7, 8, 9, 18, 10, 11, 12, 13, 16, 17, 19, 20] (by exact ⟨rfl, rfl, by decide, rfl⟩) 1 6 rfl rfl rfl rfl hl.1 rfl (Nat.le_of_ble_eq_true rfl) dX6_fly_167 ⟨Nat.le_refl _, Nat.le_refl _⟩ (fun H locs hP hD hS => ?_)
      refine lv_goto (tgt := 188) hx hb dX6_fly_170 (by decide) ?_
      refine lv_iload hx hb dX6_fly_188 (lv_at hl 5 rfl) ?_
      cases hf
      exact kR _ _ _ _ hP hD hS dX6_fly_190
  unfold f_X6_fly at hf
  refine lv_aload_n hx hb dX6_fly_0 rfl (lv_at hl 1 rfl) ?_
  refine lv_iload_n hx hb dX6_fly_1 rfl (lv_at hl 2 rfl) ?_
  obtain ⟨r_1, hc, hf⟩ := ob1_some hf
  refine g_VZ (As := [.int x2]) (rest := []) (ws' := (w_X6_fly kc a0 a1 a2 a3 a4 a5 a6 a7 a8 a9 a10 a11 a12 a13 a14 a15 a16 a17 a18 a19 a20 a21 a22 a23 a24 a25 a26 a27 regions balloons letters loft start seed day wind loft2 lost launchCount drawState count turnCount aimCount aim land risk launched balloonState balloonRegion cargo letters2 pigeons count2 kind number day2 distance due comeback homing)) ⟨hx, hb, hml, hown, hts⟩ hN hK hP hD hS hA (c_X5_hasBalloon l D kc N a0 a1 a2 a3 a4 a5 a6 a7 a8 regions balloons letters loft start seed x2 r_1 hc) (cwV 1 hts gX6_fly_X5_hasBalloon rfl rfl rfl (by decide +kernel) ⟨Nat.le_of_ble_eq_true rfl, Nat.le_of_ble_eq_true rfl⟩) [0] [1, 2, 3, 4, 5, 6, 7, 8, 9, 10, 11, 12, 13, 14, 15, 16, 17, 18, 19, 20] [20, 0, 1, 2, 3, 4, 5, 6, 7, 8, 9, 10, 11, 12, 13, 14, 15, 16, 17, 18, 19] (by exact ⟨rfl, rfl, by decide, rfl⟩) 0 5 rfl rfl rfl rfl hl.1 rfl (Nat.le_of_ble_eq_true rfl) dX6_fly_2 ⟨Nat.le_refl _, Nat.le_refl _⟩ (fun H locs hz hP hD hS => ?_)
  have hz_2 := hz
  refine lv_if_eq (tgt := 24) hx hb dX6_fly_5 (by decide) (fun hc => ?_) (fun hc => ?_)
  · have hf := o_t hc hf
    refine lv_iconst (v := (-1)) hx hb dX6_fly_24 (by decide) ?_
    cases hf
    exact kR _ _ _ _ hP hD hS dX6_fly_25
  · have hf := o_f hc hf
    refine lv_aload_n hx hb dX6_fly_8 rfl (lv_at hl 0 rfl) ?_
    refine va_get (D := D) (ci := 6) (v := .int launchCount) (C := RX6) (T := TX6) (N := 15) hx hb hts in_X6 hown hK hP 1 rfl rfl 13 (by decide) lk_60 (fun _ h9 => h9) rfl dX6_fly_9 ?_
    refine lv_if_lt (tgt := 24) hx hb dX6_fly_12 (by decide) (fun hc => ?_) (fun hc => ?_)
    · have hf := o_t hc hf
      refine lv_iconst (v := (-1)) hx hb dX6_fly_24 (by decide) ?_
      cases hf
      exact kR _ _ _ _ hP hD hS dX6_fly_25
    · have hf := o_f hc hf
      refine lv_aload_n hx hb dX6_fly_15 rfl (lv_at hl 0 rfl) ?_
      refine va_get (D := D) (ci := 6) (v := .int launchCount) (C := RX6) (T := TX6) (N := 15) hx hb hts in_X6 hown hK hP 1 rfl rfl 13 (by decide) lk_60 (fun _ h9 => h9) rfl dX6_fly_16 ?_
      refine lv_bipush (v := 10) hx hb dX6_fly_19 (by decide) ?_
      refine lv_icmp_lt (tgt := 26) hx hb dX6_fly_21 (by decide) (fun hc => ?_) (fun hc => ?_)
      · have hf := o_t hc hf
        refine lv_aload_n hx hb dX6_fly_26 rfl (lv_at hl 1 rfl) ?_
        refine va_get (D := D) (ci := 5) (v := .ref a1) (C := RX5) (T := TX5) (N := 14) hx hb hts in_X5 hown hK hP 0 rfl rfl 0 (by decide) lk_66 (fun _ h9 => h9) rfl dX6_fly_27 ?_
        refine lv_aload_n hx hb dX6_fly_30 rfl (lv_at hl 0 rfl) ?_
        refine va_get (D := D) (ci := 6) (v := .int wind) (C := RX6) (T := TX6) (N := 15) hx hb hts in_X6 hown hK hP 1 rfl rfl 7 (by decide) lk_34 (fun _ h9 => h9) rfl dX6_fly_31 ?_
        refine lv_aload_n hx hb dX6_fly_34 rfl (lv_at hl 0 rfl) ?_
        obtain ⟨r_3, drawState_4, hc, hf⟩ := ob2_some hf
        refine g_VI (As := []) (rest := [.int wind, .ref a1]) (ws' := (w_X6_fly kc a0 a1 a2 a3 a4 a5 a6 a7 a8 a9 a10 a11 a12 a13 a14 a15 a16 a17 a18 a19 a20 a21 a22 a23 a24 a25 a26 a27 regions balloons letters loft start seed day wind loft2 lost launchCount drawState_4 count turnCount aimCount aim land risk launched balloonState balloonRegion cargo letters2 pigeons count2 kind number day2 distance due comeback homing)) ⟨hx, hb, hml, hown, hts⟩ hN hK hP hD hS hA (c_X6_draw l D kc N a9 a10 a11 a12 a13 a14 a15 a16 a17 a18 day wind loft2 lost launchCount drawState r_3 drawState_4 hc) (cwV 0 hts gX6_fly_X6_draw rfl rfl rfl (by decide +kernel) ⟨Nat.le_of_ble_eq_true rfl, Nat.le_of_ble_eq_true rfl⟩) [1] [0, 2, 3, 4, 5, 6, 7, 8, 9, 10, 11, 12, 13, 14, 15, 16, 17, 18, 19, 20] [0, 20, 1, 2, 3, 4, 5, 6, 7, 8, 9, 10, 11, 12, 13, 14, 15, 16, 17, 18, 19] (by exact ⟨rfl, rfl, by decide, rfl⟩) 1 6 rfl rfl rfl rfl hl.1 rfl (Nat.le_of_ble_eq_true rfl) dX6_fly_35 ⟨Nat.le_refl _, Nat.le_refl _⟩ (fun H locs hP hD hS => ?_)
        obtain ⟨r_5, hc, hf⟩ := ob1_some hf
        refine g_VI (As := [.int wind, .int r_3]) (rest := []) (ws' := (w_X6_fly kc a0 a1 a2 a3 a4 a5 a6 a7 a8 a9 a10 a11 a12 a13 a14 a15 a16 a17 a18 a19 a20 a21 a22 a23 a24 a25 a26 a27 regions balloons letters loft start seed day wind loft2 lost launchCount drawState_4 count turnCount aimCount aim land risk launched balloonState balloonRegion cargo letters2 pigeons count2 kind number day2 distance due comeback homing)) ⟨hx, hb, hml, hown, hts⟩ hN hK hP hD hS hA (c_X7_chooseRegion l D kc N a1 a19 a20 a21 a22 a23 a24 count turnCount aimCount aim land wind r_3 r_5 hc) (cwV 2 hts gX6_fly_X7_chooseRegion rfl rfl rfl (by decide +kernel) ⟨Nat.le_of_ble_eq_true rfl, Nat.le_of_ble_eq_true rfl⟩) [2, 3, 4, 5] [0, 1, 6, 7, 8, 9, 10, 11, 12, 13, 14, 15, 16, 17, 18, 19, 20] [0, 1, 17, 18, 19, 20, 2, 3, 4, 5, 6, 7, 8, 9, 10, 11, 12, 13, 14, 15, 16] (by exact ⟨rfl, rfl, by decide, rfl⟩) 2 7 rfl rfl rfl rfl hl.1 rfl (Nat.le_of_ble_eq_true rfl) dX6_fly_38 ⟨Nat.le_refl _, Nat.le_refl _⟩ (fun H locs hP hD hS => ?_)
        refine lv_istore (lv' := [(4, .int r_5), (0, .ref a9), (1, .ref a0), (2, .int x2), (3, .int x3)]) hx hb dX6_fly_41 hl (by decide) rfl (fun ls hl => ?_)
        refine lv_aload_n hx hb dX6_fly_43 rfl (lv_at hl 1 rfl) ?_
        refine lv_aload_n hx hb dX6_fly_44 rfl (lv_at hl 2 rfl) ?_
        refine lv_iload hx hb dX6_fly_45 (lv_at hl 0 rfl) ?_
        obtain ⟨r_6, drawState_7, hc, hf⟩ := ob2_some hf
        refine g_VI (As := [.ref a0, .int r_5]) (rest := []) (ws' := (w_X6_fly kc a0 a1 a2 a3 a4 a5 a6 a7 a8 a9 a10 a11 a12 a13 a14 a15 a16 a17 a18 a19 a20 a21 a22 a23 a24 a25 a26 a27 regions balloons letters loft start seed day wind loft2 lost launchCount drawState_7 count turnCount aimCount aim land risk launched balloonState balloonRegion cargo letters2 pigeons count2 kind number day2 distance due comeback homing)) ⟨hx, hb, hml, hown, hts⟩ hN hK hP hD hS hA (c_X6_drawFate l D kc N a0 a1 a2 a3 a4 a5 a6 a7 a8 a9 a10 a11 a12 a13 a14 a15 a16 a17 a18 regions balloons letters loft start seed day wind loft2 lost launchCount drawState_4 risk r_5 r_6 drawState_7 hc) (cwV 2 hts gX6_fly_X6_drawFate rfl rfl rfl (by decide +kernel) ⟨Nat.le_of_ble_eq_true rfl, Nat.le_of_ble_eq_true rfl⟩) [0, 1, 6] [2, 3, 4, 5, 7, 8, 9, 10, 11, 12, 13, 14, 15, 16, 17, 18, 19, 20] [18, 19, 0, 1, 2, 3, 20, 4, 5, 6, 7, 8, 9, 10, 11, 12, 13, 14, 15, 16, 17] (by exact ⟨rfl, rfl, by decide, rfl⟩) 1 6 rfl rfl rfl rfl hl.1 rfl (Nat.le_of_ble_eq_true rfl) dX6_fly_47 ⟨Nat.le_refl _, Nat.le_refl _⟩ (fun H locs hP hD hS => ?_)
        refine lv_istore (lv' := [(5, .int r_6), (4, .int r_5), (0, .ref a9), (1, .ref a0), (2, .int x2), (3, .int x3)]) hx hb dX6_fly_50 hl (by decide) rfl (fun ls hl => ?_)
        refine lv_aload_n hx hb dX6_fly_52 rfl (lv_at hl 2 rfl) ?_
        refine va_get (D := D) (ci := 6) (v := .ref a18) (C := RX6) (T := TX6) (N := 15) hx hb hts in_X6 hown hK hP 1 rfl rfl 12 (by decide) lk_44 (fun _ h9 => h9) rfl dX6_fly_53 ?_
        refine lv_aload_n hx hb dX6_fly_56 rfl (lv_at hl 2 rfl) ?_
        refine va_get (D := D) (ci := 6) (v := .int launchCount) (C := RX6) (T := TX6) (N := 15) hx hb hts in_X6 hown hK hP 1 rfl rfl 13 (by decide) lk_60 (fun _ h9 => h9) rfl dX6_fly_57 ?_
        refine lv_iload_n hx hb dX6_fly_60 rfl (lv_at hl 4 rfl) ?_
        obtain ⟨hi, hf⟩ := gIx_some hf
        refine va_iast hx hb hK hP hD hS 7 1 rfl rfl hi dX6_fly_61 (fun H locs hP hD hS => ?_)
        have hP : va_P D vwCl (w_X6_fly kc a0 a1 a2 a3 a4 a5 a6 a7 a8 a9 a10 a11 a12 a13 a14 a15 a16 a17 a18 a19 a20 a21 a22 a23 a24 a25 a26 a27 regions balloons letters loft start seed day wind loft2 lost launchCount drawState_7 count turnCount aimCount aim land risk (upd launched (launchCount : Int32).toNatClampNeg x2) balloonState balloonRegion cargo letters2 pigeons count2 kind number day2 distance due comeback homing) H := hP
        have hD : va_D A (w_X6_fly kc a0 a1 a2 a3 a4 a5 a6 a7 a8 a9 a10 a11 a12 a13 a14 a15 a16 a17 a18 a19 a20 a21 a22 a23 a24 a25 a26 a27 regions balloons letters loft start seed day wind loft2 lost launchCount drawState_7 count turnCount aimCount aim land risk (upd launched (launchCount : Int32).toNatClampNeg x2) balloonState balloonRegion cargo letters2 pigeons count2 kind number day2 distance due comeback homing) := hD
        refine lv_aload_n hx hb dX6_fly_62 rfl (lv_at hl 2 rfl) ?_
        refine lv_dup hx hb dX6_fly_63 rfl ?_
        refine va_get (D := D) (ci := 6) (v := .int launchCount) (C := RX6) (T := TX6) (N := 15) hx hb hts in_X6 hown hK hP 1 rfl rfl 13 (by decide) lk_60 (fun _ h9 => h9) rfl dX6_fly_64 ?_
        refine lv_iconst (v := 1) hx hb dX6_fly_67 (by decide) ?_
        refine lv_iadd hx hb dX6_fly_68 ?_
        refine va_put (D := D) (ci := 6) (v := .int (launchCount + 1)) (ty := .int) (C := RX6) (T := TX6) (N := 15) hx hb hts in_X6 tyX6 tyX6_ok nmX6 hown hK hP hD hS 1 rfl rfl 13 (by decide) lk_60 (fun _ h9 => h9) rfl (by decide +kernel) rfl rfl (Nat.le_of_ble_eq_true rfl) dX6_fly_69 (fun H locs hP hD hS => ?_)
        have hP : va_P D vwCl (w_X6_fly kc a0 a1 a2 a3 a4 a5 a6 a7 a8 a9 a10 a11 a12 a13 a14 a15 a16 a17 a18 a19 a20 a21 a22 a23 a24 a25 a26 a27 regions balloons letters loft start seed day wind loft2 lost (launchCount + 1) drawState_7 count turnCount aimCount aim land risk (upd launched (launchCount : Int32).toNatClampNeg x2) balloonState balloonRegion cargo letters2 pigeons count2 kind number day2 distance due comeback homing) H := hP
        have hD : va_D A (w_X6_fly kc a0 a1 a2 a3 a4 a5 a6 a7 a8 a9 a10 a11 a12 a13 a14 a15 a16 a17 a18 a19 a20 a21 a22 a23 a24 a25 a26 a27 regions balloons letters loft start seed day wind loft2 lost (launchCount + 1) drawState_7 count turnCount aimCount aim land risk (upd launched (launchCount : Int32).toNatClampNeg x2) balloonState balloonRegion cargo letters2 pigeons count2 kind number day2 distance due comeback homing) := hD
        refine lv_aload_n hx hb dX6_fly_72 rfl (lv_at hl 2 rfl) ?_
        refine va_get (D := D) (ci := 6) (v := .ref a11) (C := RX6) (T := TX6) (N := 15) hx hb hts in_X6 hown hK hP 1 rfl rfl 1 (by decide) lk_18 (fun _ h9 => h9) rfl dX6_fly_73 ?_
        refine lv_iload_n hx hb dX6_fly_76 rfl (lv_at hl 4 rfl) ?_
        refine lv_iload hx hb dX6_fly_77 (lv_at hl 0 rfl) ?_
        obtain ⟨hi, hf⟩ := gIx_some hf
        refine va_iast hx hb hK hP hD hS 8 1 rfl rfl hi dX6_fly_79 (fun H locs hP hD hS => ?_)
        have hP : va_P D vwCl (w_X6_fly kc a0 a1 a2 a3 a4 a5 a6 a7 a8 a9 a10 a11 a12 a13 a14 a15 a16 a17 a18 a19 a20 a21 a22 a23 a24 a25 a26 a27 regions balloons letters loft start seed day wind loft2 lost (launchCount + 1) drawState_7 count turnCount aimCount aim land risk (upd launched (launchCount : Int32).toNatClampNeg x2) (upd balloonState (x2 : Int32).toNatClampNeg r_6) balloonRegion cargo letters2 pigeons count2 kind number day2 distance due comeback homing) H := hP
        have hD : va_D A (w_X6_fly kc a0 a1 a2 a3 a4 a5 a6 a7 a8 a9 a10 a11 a12 a13 a14 a15 a16 a17 a18 a19 a20 a21 a22 a23 a24 a25 a26 a27 regions balloons letters loft start seed day wind loft2 lost (launchCount + 1) drawState_7 count turnCount aimCount aim land risk (upd launched (launchCount : Int32).toNatClampNeg x2) (upd balloonState (x2 : Int32).toNatClampNeg r_6) balloonRegion cargo letters2 pigeons count2 kind number day2 distance due comeback homing) := hD
        refine lv_aload_n hx hb dX6_fly_80 rfl (lv_at hl 2 rfl) ?_
        refine va_get (D := D) (ci := 6) (v := .ref a12) (C := RX6) (T := TX6) (N := 15) hx hb hts in_X6 hown hK hP 1 rfl rfl 2 (by decide) lk_22 (fun _ h9 => h9) rfl dX6_fly_81 ?_
        refine lv_iload_n hx hb dX6_fly_84 rfl (lv_at hl 4 rfl) ?_
        refine lv_iload hx hb dX6_fly_85 (lv_at hl 1 rfl) ?_
        obtain ⟨hi, hf⟩ := gIx_some hf
        refine va_iast hx hb hK hP hD hS 9 1 rfl rfl hi dX6_fly_87 (fun H locs hP hD hS => ?_)
        have hP : va_P D vwCl (w_X6_fly kc a0 a1 a2 a3 a4 a5 a6 a7 a8 a9 a10 a11 a12 a13 a14 a15 a16 a17 a18 a19 a20 a21 a22 a23 a24 a25 a26 a27 regions balloons letters loft start seed day wind loft2 lost (launchCount + 1) drawState_7 count turnCount aimCount aim land risk (upd launched (launchCount : Int32).toNatClampNeg x2) (upd balloonState (x2 : Int32).toNatClampNeg r_6) (upd balloonRegion (x2 : Int32).toNatClampNeg r_5) cargo letters2 pigeons count2 kind number day2 distance due comeback homing) H := hP
        have hD : va_D A (w_X6_fly kc a0 a1 a2 a3 a4 a5 a6 a7 a8 a9 a10 a11 a12 a13 a14 a15 a16 a17 a18 a19 a20 a21 a22 a23 a24 a25 a26 a27 regions balloons letters loft start seed day wind loft2 lost (launchCount + 1) drawState_7 count turnCount aimCount aim land risk (upd launched (launchCount : Int32).toNatClampNeg x2) (upd balloonState (x2 : Int32).toNatClampNeg r_6) (upd balloonRegion (x2 : Int32).toNatClampNeg r_5) cargo letters2 pigeons count2 kind number day2 distance due comeback homing) := hD
        refine lv_aload_n hx hb dX6_fly_88 rfl (lv_at hl 2 rfl) ?_
        refine va_get (D := D) (ci := 6) (v := .ref a13) (C := RX6) (T := TX6) (N := 15) hx hb hts in_X6 hown hK hP 1 rfl rfl 3 (by decide) lk_25 (fun _ h9 => h9) rfl dX6_fly_89 ?_
        refine lv_iload_n hx hb dX6_fly_92 rfl (lv_at hl 4 rfl) ?_
        refine lv_iload_n hx hb dX6_fly_93 rfl (lv_at hl 5 rfl) ?_
        obtain ⟨hi, hf⟩ := gIx_some hf
        refine va_iast hx hb hK hP hD hS 10 1 rfl rfl hi dX6_fly_94 (fun H locs hP hD hS => ?_)
        have hP : va_P D vwCl (w_X6_fly kc a0 a1 a2 a3 a4 a5 a6 a7 a8 a9 a10 a11 a12 a13 a14 a15 a16 a17 a18 a19 a20 a21 a22 a23 a24 a25 a26 a27 regions balloons letters loft start seed day wind loft2 lost (launchCount + 1) drawState_7 count turnCount aimCount aim land risk (upd launched (launchCount : Int32).toNatClampNeg x2) (upd balloonState (x2 : Int32).toNatClampNeg r_6) (upd balloonRegion (x2 : Int32).toNatClampNeg r_5) (upd cargo (x2 : Int32).toNatClampNeg x3) letters2 pigeons count2 kind number day2 distance due comeback homing) H := hP
        have hD : va_D A (w_X6_fly kc a0 a1 a2 a3 a4 a5 a6 a7 a8 a9 a10 a11 a12 a13 a14 a15 a16 a17 a18 a19 a20 a21 a22 a23 a24 a25 a26 a27 regions balloons letters loft start seed day wind loft2 lost (launchCount + 1) drawState_7 count turnCount aimCount aim land risk (upd launched (launchCount : Int32).toNatClampNeg x2) (upd balloonState (x2 : Int32).toNatClampNeg r_6) (upd balloonRegion (x2 : Int32).toNatClampNeg r_5) (upd cargo (x2 : Int32).toNatClampNeg x3) letters2 pigeons count2 kind number day2 distance due comeback homing) := hD
        refine lv_aload_n hx hb dX6_fly_95 rfl (lv_at hl 2 rfl) ?_
        refine va_get (D := D) (ci := 6) (v := .ref a14) (C := RX6) (T := TX6) (N := 15) hx hb hts in_X6 hown hK hP 1 rfl rfl 4 (by decide) lk_28 (fun _ h9 => h9) rfl dX6_fly_96 ?_
        refine lv_iconst (v := 0) hx hb dX6_fly_99 (by decide) ?_
        refine lv_dup2_11 hx hb dX6_fly_100 rfl rfl ?_
        obtain ⟨hi, hf⟩ := gIx_some hf
        refine va_iald hx hb hK hP 11 1 rfl rfl hi dX6_fly_101 ?_
        refine lv_iload_n hx hb dX6_fly_102 rfl (lv_at hl 5 rfl) ?_
        refine lv_iconst (v := (-1)) hx hb dX6_fly_103 (by decide) ?_
        refine lv_ixor hx hb dX6_fly_104 ?_
        refine lv_iand hx hb dX6_fly_105 ?_
        obtain ⟨hi, hf⟩ := gIx_some hf
        refine va_iast hx hb hK hP hD hS 11 1 rfl rfl hi dX6_fly_106 (fun H locs hP hD hS => ?_)
        have hP : va_P D vwCl (w_X6_fly kc a0 a1 a2 a3 a4 a5 a6 a7 a8 a9 a10 a11 a12 a13 a14 a15 a16 a17 a18 a19 a20 a21 a22 a23 a24 a25 a26 a27 regions balloons letters loft start seed day wind loft2 lost (launchCount + 1) drawState_7 count turnCount aimCount aim land risk (upd launched (launchCount : Int32).toNatClampNeg x2) (upd balloonState (x2 : Int32).toNatClampNeg r_6) (upd balloonRegion (x2 : Int32).toNatClampNeg r_5) (upd cargo (x2 : Int32).toNatClampNeg x3) (upd letters2 (0 : Int32).toNatClampNeg ((letters2 (0 : Int32).toNatClampNeg) &&& (x3 ^^^ (-1)))) pigeons count2 kind number day2 distance due comeback homing) H := hP
        have hD : va_D A (w_X6_fly kc a0 a1 a2 a3 a4 a5 a6 a7 a8 a9 a10 a11 a12 a13 a14 a15 a16 a17 a18 a19 a20 a21 a22 a23 a24 a25 a26 a27 regions balloons letters loft start seed day wind loft2 lost (launchCount + 1) drawState_7 count turnCount aimCount aim land risk (upd launched (launchCount : Int32).toNatClampNeg x2) (upd balloonState (x2 : Int32).toNatClampNeg r_6) (upd balloonRegion (x2 : Int32).toNatClampNeg r_5) (upd cargo (x2 : Int32).toNatClampNeg x3) (upd letters2 (0 : Int32).toNatClampNeg ((letters2 (0 : Int32).toNatClampNeg) &&& (x3 ^^^ (-1)))) pigeons count2 kind number day2 distance due comeback homing) := hD
        refine lv_aload_n hx hb dX6_fly_107 rfl (lv_at hl 2 rfl) ?_
        refine va_get (D := D) (ci := 6) (v := .ref a14) (C := RX6) (T := TX6) (N := 15) hx hb hts in_X6 hown hK hP 1 rfl rfl 4 (by decide) lk_28 (fun _ h9 => h9) rfl dX6_fly_108 ?_
        refine lv_iload hx hb dX6_fly_111 (lv_at hl 0 rfl) ?_
        refine lv_iconst (v := 3) hx hb dX6_fly_113 (by decide) ?_
        refine lv_icmp_ne (tgt := 121) hx hb dX6_fly_114 (by decide) (fun hc => ?_) (fun hc => ?_)
        · have hf := o_f hc hf
          refine lv_iconst (v := 1) hx hb dX6_fly_121 (by decide) ?_
          exact J122 _ _ _ _ _ _ _ _ _ _ hf _ _ _ hP hD hS (lv_sub hl [2, 3, 4, 5, 1, 0] rfl)
        · have hf := o_t hc hf
          refine lv_iconst (v := 2) hx hb dX6_fly_117 (by decide) ?_
          refine lv_goto (tgt := 122) hx hb dX6_fly_118 (by decide) ?_
          exact J122 _ _ _ _ _ _ _ _ _ _ hf _ _ _ hP hD hS (lv_sub hl [2, 3, 4, 5, 1, 0] rfl)
      · have hf := o_f hc hf
        refine lv_iconst (v := (-1)) hx hb dX6_fly_24 (by decide) ?_
        cases hf
        exact kR _ _ _ _ hP hD hS dX6_fly_25
abbrev w_X6_turnWind (kc : Nat → ClassId) (a0 a1 a2 a3 a4 a5 a6 a7 a8 a9 a10 a11 a12 : Nat) (day : Int32) (wind : Int32) (loft : Int32) (lost : Int32) (launchCount : Int32) (drawState : Int64) (count : Int32) (kind : Nat → Int32) (number : Nat → Int32) (day2 : Nat → Int32) : va_W := [(a0, .inr (6, [.ref a1, .ref a2, .ref a3, .ref a4, .ref a5, .ref a6, .int day, .int wind, .int loft, .int lost, .ref a7, .ref a8, .ref a9, .int launchCount, .long drawState])), (a1, .inr (1, [.ref a10, .ref a11, .ref a12, .int count])), (a10, .inl (kc 1, 16, .inl kind)), (a11, .inl (kc 1, 16, .inl number)), (a12, .inl (kc 1, 16, .inl day2))]
set_option maxHeartbeats 4000000 in
set_option maxRecDepth 100000 in
theorem c_X6_turnWind (l : Launch) (D : va_G) (kc : Nat → ClassId) (N : Nat) (a0 a1 a2 a3 a4 a5 a6 a7 a8 a9 a10 a11 a12 : Nat) (day : Int32) (wind : Int32) (loft : Int32) (lost : Int32) (launchCount : Int32) (drawState : Int64) (count : Int32) (kind : Nat → Int32) (number : Nat → Int32) (day2 : Nat → Int32) (x1 : Int32) (wind' : Int32) (count' : Int32) (kind' : Nat → Int32) (number' : Nat → Int32) (day2' : Nat → Int32) (hf : f_X6_turnWind N day wind count kind number day2 x1 = some (wind', count', kind', number', day2')) : MV l yX6_turnWind wsX6_turnWind ({ frames := 2, cells := 0, slots := 0, locals := 44 }) D kc [.ref a0, .int x1] (w_X6_turnWind kc a0 a1 a2 a3 a4 a5 a6 a7 a8 a9 a10 a11 a12 day wind loft lost launchCount drawState count kind number day2) (w_X6_turnWind kc a0 a1 a2 a3 a4 a5 a6 a7 a8 a9 a10 a11 a12 day wind' loft lost launchCount drawState count' kind' number' day2') := by
  refine gM_V (cc := cX6_turnWind) (maxL := 2) (by decide) rfl (Nat.le_of_ble_eq_true rfl) ?_
  intro p e s m below meth c A ls Q hx hb hml hown hts hN hK hP hD hA hl kR
  have hS : va_S A s.heap s.heap [] := va_S.rf
  have hl : lv_has ls 2 [(0, .ref a0), (1, .int x1)] := hl
  have in_X6 : ∀ w ∈ u_ws RX6 TX6 15, w ∈ wsX6_turnWind := by decide +kernel
  have lk_34 := hts (.fieldLink RX6 34 "BalloonMail$State" "wind" "I") (by decide +kernel)
  have lk_12 := hts (.fieldLink RX6 12 "BalloonMail$State" "journal" "LBalloonMail$Journal;") (by decide +kernel)
  have lk_63 := hts (.fieldLink RX6 63 "BalloonMail$State" "day" "I") (by decide +kernel)
  unfold f_X6_turnWind at hf
  refine lv_iload_n hx hb dX6_turnWind_0 rfl (lv_at hl 1 rfl) ?_
  refine lv_aload_n hx hb dX6_turnWind_1 rfl (lv_at hl 0 rfl) ?_
  refine va_get (D := D) (ci := 6) (v := .int wind) (C := RX6) (T := TX6) (N := 15) hx hb hts in_X6 hown hK hP 0 rfl rfl 7 (by decide) lk_34 (fun _ h9 => h9) rfl dX6_turnWind_2 ?_
  refine lv_icmp_eq (tgt := 26) hx hb dX6_turnWind_5 (by decide) (fun hc => ?_) (fun hc => ?_)
  · have hf := o_t hc hf
    cases hf
    exact kR _ _ _ _ hP hD hS dX6_turnWind_26
  · have hf := o_f hc hf
    refine lv_aload_n hx hb dX6_turnWind_8 rfl (lv_at hl 0 rfl) ?_
    refine lv_iload_n hx hb dX6_turnWind_9 rfl (lv_at hl 1 rfl) ?_
    refine va_put (D := D) (ci := 6) (v := .int x1) (ty := .int) (C := RX6) (T := TX6) (N := 15) hx hb hts in_X6 tyX6 tyX6_ok nmX6 hown hK hP hD hS 0 rfl rfl 7 (by decide) lk_34 (fun _ h9 => h9) rfl (by decide +kernel) rfl rfl (Nat.le_of_ble_eq_true rfl) dX6_turnWind_10 (fun H locs hP hD hS => ?_)
    have hP : va_P D vwCl (w_X6_turnWind kc a0 a1 a2 a3 a4 a5 a6 a7 a8 a9 a10 a11 a12 day x1 loft lost launchCount drawState count kind number day2) H := hP
    have hD : va_D A (w_X6_turnWind kc a0 a1 a2 a3 a4 a5 a6 a7 a8 a9 a10 a11 a12 day x1 loft lost launchCount drawState count kind number day2) := hD
    refine lv_aload_n hx hb dX6_turnWind_13 rfl (lv_at hl 0 rfl) ?_
    refine va_get (D := D) (ci := 6) (v := .ref a1) (C := RX6) (T := TX6) (N := 15) hx hb hts in_X6 hown hK hP 0 rfl rfl 0 (by decide) lk_12 (fun _ h9 => h9) rfl dX6_turnWind_14 ?_
    refine lv_iconst (v := 5) hx hb dX6_turnWind_17 (by decide) ?_
    refine lv_iload_n hx hb dX6_turnWind_18 rfl (lv_at hl 1 rfl) ?_
    refine lv_aload_n hx hb dX6_turnWind_19 rfl (lv_at hl 0 rfl) ?_
    refine va_get (D := D) (ci := 6) (v := .int day) (C := RX6) (T := TX6) (N := 15) hx hb hts in_X6 hown hK hP 0 rfl rfl 6 (by decide) lk_63 (fun _ h9 => h9) rfl dX6_turnWind_20 ?_
    obtain ⟨count_1, kind_2, number_3, day2_4, hc, hf⟩ := ob4_some hf
    refine g_VV (As := [.int 5, .int x1, .int day]) (rest := []) (ws' := (w_X6_turnWind kc a0 a1 a2 a3 a4 a5 a6 a7 a8 a9 a10 a11 a12 day x1 loft lost launchCount drawState count_1 kind_2 number_3 day2_4)) ⟨hx, hb, hml, hown, hts⟩ hN hK hP hD hS hA (c_X1_add l D kc N a1 a10 a11 a12 count kind number day2 5 x1 day count_1 kind_2 number_3 day2_4 hc) (cwV 3 hts gX6_turnWind_X1_add rfl rfl rfl (by decide +kernel) ⟨Nat.le_of_ble_eq_true rfl, Nat.le_of_ble_eq_true rfl⟩) [1, 2, 3, 4] [0] [0, 1, 2, 3, 4] (by exact ⟨rfl, rfl, by decide, rfl⟩) 1 1 rfl rfl rfl rfl hl.1 rfl (Nat.le_of_ble_eq_true rfl) dX6_turnWind_23 ⟨Nat.le_refl _, Nat.le_refl _⟩ (fun H locs hP hD hS => ?_)
    cases hf
    exact kR _ _ _ _ hP hD hS dX6_turnWind_26
abbrev w_X6_answer (kc : Nat → ClassId) (a0 a1 a2 a3 a4 a5 a6 a7 a8 a9 a10 a11 a12 a13 a14 a15 a16 a17 a18 : Nat) (day : Int32) (wind : Int32) (loft : Int32) (lost : Int32) (launchCount : Int32) (drawState : Int64) (letters : Nat → Int32) (regions : Int32) (balloons : Int32) (letters2 : Int32) (loft2 : Int32) (start : Int32) (seed : Int32) (answeredOn : Nat → Int32) : va_W := [(a0, .inr (6, [.ref a1, .ref a2, .ref a3, .ref a4, .ref a5, .ref a6, .int day, .int wind, .int loft, .int lost, .ref a7, .ref a8, .ref a9, .int launchCount, .long drawState])), (a5, .inl (kc 1, 4, .inl letters)), (a10, .inr (5, [.ref a11, .ref a12, .ref a13, .ref a14, .ref a15, .ref a16, .ref a17, .ref a18, .int regions, .int balloons, .int letters2, .int loft2, .int start, .int seed])), (a6, .inl (kc 1, 24, .inl answeredOn))]
set_option maxHeartbeats 4000000 in
set_option maxRecDepth 100000 in
theorem c_X6_answer (l : Launch) (D : va_G) (kc : Nat → ClassId) (N : Nat) (a0 a1 a2 a3 a4 a5 a6 a7 a8 a9 a10 a11 a12 a13 a14 a15 a16 a17 a18 : Nat) (day : Int32) (wind : Int32) (loft : Int32) (lost : Int32) (launchCount : Int32) (drawState : Int64) (letters : Nat → Int32) (regions : Int32) (balloons : Int32) (letters2 : Int32) (loft2 : Int32) (start : Int32) (seed : Int32) (answeredOn : Nat → Int32) (x2 : Int32) (letters' : Nat → Int32) (answeredOn' : Nat → Int32) (hf : f_X6_answer N day letters letters2 answeredOn x2 = some (letters', answeredOn')) : MV l yX6_answer wsX6_answer ({ frames := 0, cells := 0, slots := 0, locals := 0 }) D kc [.ref a0, .ref a10, .int x2] (w_X6_answer kc a0 a1 a2 a3 a4 a5 a6 a7 a8 a9 a10 a11 a12 a13 a14 a15 a16 a17 a18 day wind loft lost launchCount drawState letters regions balloons letters2 loft2 start seed answeredOn) (w_X6_answer kc a0 a1 a2 a3 a4 a5 a6 a7 a8 a9 a10 a11 a12 a13 a14 a15 a16 a17 a18 day wind loft lost launchCount drawState letters' regions balloons letters2 loft2 start seed answeredOn') := by
  refine gM_V (cc := cX6_answer) (maxL := 4) (by decide) rfl (Nat.le_of_ble_eq_true rfl) ?_
  intro p e s m below meth c A ls Q hx hb hml hown hts hN hK hP hD hA hl kR
  have hS : va_S A s.heap s.heap [] := va_S.rf
  have hl : lv_has ls 4 [(0, .ref a0), (1, .ref a10), (2, .int x2)] := hl
  have in_X6 : ∀ w ∈ u_ws RX6 TX6 15, w ∈ wsX6_answer := by decide +kernel
  have lk_28 := hts (.fieldLink RX6 28 "BalloonMail$State" "letters" "[I") (by decide +kernel)
  have in_X5 : ∀ w ∈ u_ws RX5 TX5 14, w ∈ wsX6_answer := by decide +kernel
  have lk_56 := hts (.fieldLink RX6 56 "BalloonMail$Siege" "letters" "I") (by decide +kernel)
  have lk_31 := hts (.fieldLink RX6 31 "BalloonMail$State" "answeredOn" "[I") (by decide +kernel)
  have lk_63 := hts (.fieldLink RX6 63 "BalloonMail$State" "day" "I") (by decide +kernel)
  unfold f_X6_answer at hf
  refine lv_aload_n hx hb dX6_answer_0 rfl (lv_at hl 0 rfl) ?_
  refine va_get (D := D) (ci := 6) (v := .ref a5) (C := RX6) (T := TX6) (N := 15) hx hb hts in_X6 hown hK hP 0 rfl rfl 4 (by decide) lk_28 (fun _ h9 => h9) rfl dX6_answer_1 ?_
  refine lv_iconst (v := 2) hx hb dX6_answer_4 (by decide) ?_
  refine lv_dup2_11 hx hb dX6_answer_5 rfl rfl ?_
  obtain ⟨hi, hf⟩ := gIx_some hf
  refine va_iald hx hb hK hP 1 1 rfl rfl hi dX6_answer_6 ?_
  refine lv_iload_n hx hb dX6_answer_7 rfl (lv_at hl 2 rfl) ?_
  refine lv_iconst (v := (-1)) hx hb dX6_answer_8 (by decide) ?_
  refine lv_ixor hx hb dX6_answer_9 ?_
  refine lv_iand hx hb dX6_answer_10 ?_
  obtain ⟨hi, hf⟩ := gIx_some hf
  refine va_iast hx hb hK hP hD hS 1 1 rfl rfl hi dX6_answer_11 (fun H locs hP hD hS => ?_)
  have hP : va_P D vwCl (w_X6_answer kc a0 a1 a2 a3 a4 a5 a6 a7 a8 a9 a10 a11 a12 a13 a14 a15 a16 a17 a18 day wind loft lost launchCount drawState (upd letters (2 : Int32).toNatClampNeg ((letters (2 : Int32).toNatClampNeg) &&& (x2 ^^^ (-1)))) regions balloons letters2 loft2 start seed answeredOn) H := hP
  have hD : va_D A (w_X6_answer kc a0 a1 a2 a3 a4 a5 a6 a7 a8 a9 a10 a11 a12 a13 a14 a15 a16 a17 a18 day wind loft lost launchCount drawState (upd letters (2 : Int32).toNatClampNeg ((letters (2 : Int32).toNatClampNeg) &&& (x2 ^^^ (-1)))) regions balloons letters2 loft2 start seed answeredOn) := hD
  refine lv_aload_n hx hb dX6_answer_12 rfl (lv_at hl 0 rfl) ?_
  refine va_get (D := D) (ci := 6) (v := .ref a5) (C := RX6) (T := TX6) (N := 15) hx hb hts in_X6 hown hK hP 0 rfl rfl 4 (by decide) lk_28 (fun _ h9 => h9) rfl dX6_answer_13 ?_
  refine lv_iconst (v := 3) hx hb dX6_answer_16 (by decide) ?_
  refine lv_dup2_11 hx hb dX6_answer_17 rfl rfl ?_
  obtain ⟨hi, hf⟩ := gIx_some hf
  refine va_iald hx hb hK hP 1 1 rfl rfl hi dX6_answer_18 ?_
  refine lv_iload_n hx hb dX6_answer_19 rfl (lv_at hl 2 rfl) ?_
  refine lv_ior hx hb dX6_answer_20 ?_
  obtain ⟨hi, hf⟩ := gIx_some hf
  refine va_iast hx hb hK hP hD hS 1 1 rfl rfl hi dX6_answer_21 (fun H locs hP hD hS => ?_)
  have hP : va_P D vwCl (w_X6_answer kc a0 a1 a2 a3 a4 a5 a6 a7 a8 a9 a10 a11 a12 a13 a14 a15 a16 a17 a18 day wind loft lost launchCount drawState (upd (upd letters (2 : Int32).toNatClampNeg ((letters (2 : Int32).toNatClampNeg) &&& (x2 ^^^ (-1)))) (3 : Int32).toNatClampNeg (((upd letters (2 : Int32).toNatClampNeg ((letters (2 : Int32).toNatClampNeg) &&& (x2 ^^^ (-1)))) (3 : Int32).toNatClampNeg) ||| x2)) regions balloons letters2 loft2 start seed answeredOn) H := hP
  have hD : va_D A (w_X6_answer kc a0 a1 a2 a3 a4 a5 a6 a7 a8 a9 a10 a11 a12 a13 a14 a15 a16 a17 a18 day wind loft lost launchCount drawState (upd (upd letters (2 : Int32).toNatClampNeg ((letters (2 : Int32).toNatClampNeg) &&& (x2 ^^^ (-1)))) (3 : Int32).toNatClampNeg (((upd letters (2 : Int32).toNatClampNeg ((letters (2 : Int32).toNatClampNeg) &&& (x2 ^^^ (-1)))) (3 : Int32).toNatClampNeg) ||| x2)) regions balloons letters2 loft2 start seed answeredOn) := hD
  refine lv_iconst (v := 0) hx hb dX6_answer_22 (by decide) ?_
  refine lv_istore_n (lv' := [(3, .int 0), (0, .ref a0), (1, .ref a10), (2, .int x2)]) hx hb dX6_answer_23 rfl hl (by decide) rfl (fun ls hl => ?_)
  have L24 : ∀ (letters_f24 : Nat → Int32) (n : Nat) (y3_24 : Int32) (answeredOn_24 : Nat → Int32) (y3_24o : Int32) (answeredOn_24o : Nat → Int32), f_X6_answer_24 N day letters2 x2 n y3_24 answeredOn_24 = some (y3_24o, answeredOn_24o) → (∀ (H : Heap) (locs : List Loc) (ls : Array Slot), va_P D vwCl (w_X6_answer kc a0 a1 a2 a3 a4 a5 a6 a7 a8 a9 a10 a11 a12 a13 a14 a15 a16 a17 a18 day wind loft lost launchCount drawState letters_f24 regions balloons letters2 loft2 start seed answeredOn_24o) H → va_D A (w_X6_answer kc a0 a1 a2 a3 a4 a5 a6 a7 a8 a9 a10 a11 a12 a13 a14 a15 a16 a17 a18 day wind loft lost launchCount drawState letters_f24 regions balloons letters2 loft2 start seed answeredOn_24o) → va_S A s.heap H locs → lv_has ls 4 [(0, .ref a0), (1, .ref a10), (2, .int x2), (3, .int y3_24o)] → W p l e ({ frames := 0, cells := 0, slots := 0, locals := 0 }) s m (([.ref a0, .ref a10, .int x2] : List Value).toArray) below meth c H locs 0 0 Q (F0 m 57 ls [])) → ∀ (H : Heap) (locs : List Loc) (ls : Array Slot), va_P D vwCl (w_X6_answer kc a0 a1 a2 a3 a4 a5 a6 a7 a8 a9 a10 a11 a12 a13 a14 a15 a16 a17 a18 day wind loft lost launchCount drawState letters_f24 regions balloons letters2 loft2 start seed answeredOn_24) H → va_D A (w_X6_answer kc a0 a1 a2 a3 a4 a5 a6 a7 a8 a9 a10 a11 a12 a13 a14 a15 a16 a17 a18 day wind loft lost launchCount drawState letters_f24 regions balloons letters2 loft2 start seed answeredOn_24) → va_S A s.heap H locs → lv_has ls 4 [(0, .ref a0), (1, .ref a10), (2, .int x2), (3, .int y3_24)] → W p l e ({ frames := 0, cells := 0, slots := 0, locals := 0 }) s m (([.ref a0, .ref a10, .int x2] : List Value).toArray) below meth c H locs 0 0 Q (F0 m 24 ls []) := by
    intro letters_f24 n
    induction n with
    | zero => intro _ _ _ _ hf; rw [f_X6_answer_24.eq_1] at hf; cases hf
    | succ n ih =>
      intro y3_24 answeredOn_24 y3_24o answeredOn_24o hf hk H locs ls hP hD hS hl
      rw [f_X6_answer_24.eq_2] at hf
      refine lv_iload_n hx hb dX6_answer_24 rfl (lv_at hl 3 rfl) ?_
      refine lv_aload_n hx hb dX6_answer_25 rfl (lv_at hl 1 rfl) ?_
      refine va_get (D := D) (ci := 5) (v := .int letters2) (C := RX5) (T := TX5) (N := 14) hx hb hts in_X5 hown hK hP 2 rfl rfl 10 (by decide) lk_56 (fun _ h9 => h9) rfl dX6_answer_26 ?_
      refine lv_icmp_ge (tgt := 57) hx hb dX6_answer_29 (by decide) (fun hc => ?_) (fun hc => ?_)
      · have hf := o_t hc hf
        cases hf
        exact hk _ _ _ hP hD hS (lv_sub hl [0, 1, 2, 3] rfl)
      · have hf := o_f hc hf
        refine lv_iload_n hx hb dX6_answer_32 rfl (lv_at hl 2 rfl) ?_
        refine lv_iload_n hx hb dX6_answer_33 rfl (lv_at hl 3 rfl) ?_
        refine lv_ishr hx hb dX6_answer_34 ?_
        refine lv_iconst (v := 1) hx hb dX6_answer_35 (by decide) ?_
        refine lv_iand hx hb dX6_answer_36 ?_
        refine lv_iconst (v := 1) hx hb dX6_answer_37 (by decide) ?_
        refine lv_icmp_ne (tgt := 51) hx hb dX6_answer_38 (by decide) (fun hc => ?_) (fun hc => ?_)
        · have hf := o_f hc hf
          refine lv_iinc (v := (y3_24 + 1)) (lv' := [(3, .int (y3_24 + 1)), (0, .ref a0), (1, .ref a10), (2, .int x2)]) hx hb dX6_answer_51 hl (k := 3) rfl (by rfl) (by decide) rfl (fun ls hl => ?_)
          refine lv_goto (tgt := 24) hx hb dX6_answer_54 (by decide) ?_
          exact ih _ _ _ _ hf hk _ _ _ hP hD hS (lv_sub hl [1, 2, 3, 0] rfl)
        · have hf := o_t hc hf
          refine lv_aload_n hx hb dX6_answer_41 rfl (lv_at hl 0 rfl) ?_
          refine va_get (D := D) (ci := 6) (v := .ref a6) (C := RX6) (T := TX6) (N := 15) hx hb hts in_X6 hown hK hP 0 rfl rfl 5 (by decide) lk_31 (fun _ h9 => h9) rfl dX6_answer_42 ?_
          refine lv_iload_n hx hb dX6_answer_45 rfl (lv_at hl 3 rfl) ?_
          refine lv_aload_n hx hb dX6_answer_46 rfl (lv_at hl 0 rfl) ?_
          refine va_get (D := D) (ci := 6) (v := .int day) (C := RX6) (T := TX6) (N := 15) hx hb hts in_X6 hown hK hP 0 rfl rfl 6 (by decide) lk_63 (fun _ h9 => h9) rfl dX6_answer_47 ?_
          obtain ⟨hi, hf⟩ := gIx_some hf
          refine va_iast hx hb hK hP hD hS 3 1 rfl rfl hi dX6_answer_50 (fun H locs hP hD hS => ?_)
          have hP : va_P D vwCl (w_X6_answer kc a0 a1 a2 a3 a4 a5 a6 a7 a8 a9 a10 a11 a12 a13 a14 a15 a16 a17 a18 day wind loft lost launchCount drawState letters_f24 regions balloons letters2 loft2 start seed (upd answeredOn_24 (y3_24 : Int32).toNatClampNeg day)) H := hP
          have hD : va_D A (w_X6_answer kc a0 a1 a2 a3 a4 a5 a6 a7 a8 a9 a10 a11 a12 a13 a14 a15 a16 a17 a18 day wind loft lost launchCount drawState letters_f24 regions balloons letters2 loft2 start seed (upd answeredOn_24 (y3_24 : Int32).toNatClampNeg day)) := hD
          refine lv_iinc (v := (y3_24 + 1)) (lv' := [(3, .int (y3_24 + 1)), (0, .ref a0), (1, .ref a10), (2, .int x2)]) hx hb dX6_answer_51 hl (k := 3) rfl (by rfl) (by decide) rfl (fun ls hl => ?_)
          refine lv_goto (tgt := 24) hx hb dX6_answer_54 (by decide) ?_
          exact ih _ _ _ _ hf hk _ _ _ hP hD hS (lv_sub hl [1, 2, 3, 0] rfl)
  obtain ⟨y3_24o, answeredOn_24o, hc, hf⟩ := ob2_some hf
  refine L24 (upd (upd letters (2 : Int32).toNatClampNeg ((letters (2 : Int32).toNatClampNeg) &&& (x2 ^^^ (-1)))) (3 : Int32).toNatClampNeg (((upd letters (2 : Int32).toNatClampNeg ((letters (2 : Int32).toNatClampNeg) &&& (x2 ^^^ (-1)))) (3 : Int32).toNatClampNeg) ||| x2)) N _ _ _ _ hc (fun H locs ls hP hD hS hl => ?_) _ _ _ hP hD hS (lv_sub hl [1, 2, 3, 0] rfl)
  cases hf
  exact kR _ _ _ _ hP hD hS dX6_answer_57
abbrev w_X6_welcomePigeons (kc : Nat → ClassId) (a0 a1 a2 a3 a4 a5 a6 a7 a8 a9 a10 a11 a12 a13 a14 a15 a16 a17 a18 a19 a20 a21 : Nat) (regions : Int32) (balloons : Int32) (letters : Int32) (loft : Int32) (start : Int32) (seed : Int32) (day : Int32) (wind : Int32) (loft2 : Int32) (lost : Int32) (launchCount : Int32) (drawState : Int64) (homing : Nat → Int32) (due : Nat → Int32) (count : Int32) (kind : Nat → Int32) (number : Nat → Int32) (day2 : Nat → Int32) (cargo : Nat → Int32) (letters2 : Nat → Int32) (answeredOn : Nat → Int32) : va_W := [(a0, .inr (5, [.ref a1, .ref a2, .ref a3, .ref a4, .ref a5, .ref a6, .ref a7, .ref a8, .int regions, .int balloons, .int letters, .int loft, .int start, .int seed])), (a9, .inr (6, [.ref a10, .ref a11, .ref a12, .ref a13, .ref a14, .ref a15, .int day, .int wind, .int loft2, .int lost, .ref a16, .ref a17, .ref a18, .int launchCount, .long drawState])), (a16, .inl (kc 1, 10, .inl homing)), (a17, .inl (kc 1, 10, .inl due)), (a10, .inr (1, [.ref a19, .ref a20, .ref a21, .int count])), (a19, .inl (kc 1, 16, .inl kind)), (a20, .inl (kc 1, 16, .inl number)), (a21, .inl (kc 1, 16, .inl day2)), (a13, .inl (kc 1, 10, .inl cargo)), (a14, .inl (kc 1, 4, .inl letters2)), (a15, .inl (kc 1, 24, .inl answeredOn))]
set_option maxHeartbeats 4000000 in
set_option maxRecDepth 100000 in
theorem c_X6_welcomePigeons (l : Launch) (D : va_G) (kc : Nat → ClassId) (N : Nat) (a0 a1 a2 a3 a4 a5 a6 a7 a8 a9 a10 a11 a12 a13 a14 a15 a16 a17 a18 a19 a20 a21 : Nat) (regions : Int32) (balloons : Int32) (letters : Int32) (loft : Int32) (start : Int32) (seed : Int32) (day : Int32) (wind : Int32) (loft2 : Int32) (lost : Int32) (launchCount : Int32) (drawState : Int64) (homing : Nat → Int32) (due : Nat → Int32) (count : Int32) (kind : Nat → Int32) (number : Nat → Int32) (day2 : Nat → Int32) (cargo : Nat → Int32) (letters2 : Nat → Int32) (answeredOn : Nat → Int32) (x2 : Int32) (loft2' : Int32) (homing' : Nat → Int32) (count' : Int32) (kind' : Nat → Int32) (number' : Nat → Int32) (day2' : Nat → Int32) (letters2' : Nat → Int32) (answeredOn' : Nat → Int32) (hf : f_X6_welcomePigeons N balloons letters day loft2 homing due count kind number day2 cargo letters2 answeredOn x2 = some (loft2', homing', count', kind', number', day2', letters2', answeredOn')) : MV l yX6_welcomePigeons wsX6_welcomePigeons ({ frames := 2, cells := 0, slots := 0, locals := 44 }) D kc [.ref a9, .ref a0, .int x2] (w_X6_welcomePigeons kc a0 a1 a2 a3 a4 a5 a6 a7 a8 a9 a10 a11 a12 a13 a14 a15 a16 a17 a18 a19 a20 a21 regions balloons letters loft start seed day wind loft2 lost launchCount drawState homing due count kind number day2 cargo letters2 answeredOn) (w_X6_welcomePigeons kc a0 a1 a2 a3 a4 a5 a6 a7 a8 a9 a10 a11 a12 a13 a14 a15 a16 a17 a18 a19 a20 a21 regions balloons letters loft start seed day wind loft2' lost launchCount drawState homing' due count' kind' number' day2' cargo letters2' answeredOn') := by
  refine gM_V (cc := cX6_welcomePigeons) (maxL := 4) (by decide) rfl (Nat.le_of_ble_eq_true rfl) ?_
  intro p e s m below meth c A ls Q hx hb hml hown hts hN hK hP hD hA hl kR
  have hS : va_S A s.heap s.heap [] := va_S.rf
  have hl : lv_has ls 4 [(0, .ref a9), (1, .ref a0), (2, .int x2)] := hl
  have in_X6 : ∀ w ∈ u_ws RX6 TX6 15, w ∈ wsX6_welcomePigeons := by decide +kernel
  have lk_38 := hts (.fieldLink RX6 38 "BalloonMail$State" "homing" "[I") (by decide +kernel)
  have lk_41 := hts (.fieldLink RX6 41 "BalloonMail$State" "due" "[I") (by decide +kernel)
  have lk_63 := hts (.fieldLink RX6 63 "BalloonMail$State" "day" "I") (by decide +kernel)
  have lk_79 := hts (.fieldLink RX6 79 "BalloonMail$State" "loft" "I") (by decide +kernel)
  have lk_12 := hts (.fieldLink RX6 12 "BalloonMail$State" "journal" "LBalloonMail$Journal;") (by decide +kernel)
  have lk_25 := hts (.fieldLink RX6 25 "BalloonMail$State" "cargo" "[I") (by decide +kernel)
  unfold f_X6_welcomePigeons at hf
  refine lv_aload_n hx hb dX6_welcomePigeons_0 rfl (lv_at hl 1 rfl) ?_
  refine lv_iload_n hx hb dX6_welcomePigeons_1 rfl (lv_at hl 2 rfl) ?_
  obtain ⟨r_1, hc, hf⟩ := ob1_some hf
  refine g_VZ (As := [.int x2]) (rest := []) (ws' := (w_X6_welcomePigeons kc a0 a1 a2 a3 a4 a5 a6 a7 a8 a9 a10 a11 a12 a13 a14 a15 a16 a17 a18 a19 a20 a21 regions balloons letters loft start seed day wind loft2 lost launchCount drawState homing due count kind number day2 cargo letters2 answeredOn)) ⟨hx, hb, hml, hown, hts⟩ hN hK hP hD hS hA (c_X5_hasBalloon l D kc N a0 a1 a2 a3 a4 a5 a6 a7 a8 regions balloons letters loft start seed x2 r_1 hc) (cwV 1 hts gX6_welcomePigeons_X5_hasBalloon rfl rfl rfl (by decide +kernel) ⟨Nat.le_of_ble_eq_true rfl, Nat.le_of_ble_eq_true rfl⟩) [0] [1, 2, 3, 4, 5, 6, 7, 8, 9, 10] [10, 0, 1, 2, 3, 4, 5, 6, 7, 8, 9] (by exact ⟨rfl, rfl, by decide, rfl⟩) 0 5 rfl rfl rfl rfl hl.1 rfl (Nat.le_of_ble_eq_true rfl) dX6_welcomePigeons_2 ⟨Nat.le_refl _, Nat.le_refl _⟩ (fun H locs hz hP hD hS => ?_)
  have hz_2 := hz
  refine lv_if_eq (tgt := 30) hx hb dX6_welcomePigeons_5 (by decide) (fun hc => ?_) (fun hc => ?_)
  · have hf := o_t hc hf
    cases hf
    exact kR _ _ _ _ hP hD hS dX6_welcomePigeons_30
  · have hf := o_f hc hf
    refine lv_aload_n hx hb dX6_welcomePigeons_8 rfl (lv_at hl 0 rfl) ?_
    refine va_get (D := D) (ci := 6) (v := .ref a16) (C := RX6) (T := TX6) (N := 15) hx hb hts in_X6 hown hK hP 1 rfl rfl 10 (by decide) lk_38 (fun _ h9 => h9) rfl dX6_welcomePigeons_9 ?_
    refine lv_iload_n hx hb dX6_welcomePigeons_12 rfl (lv_at hl 2 rfl) ?_
    obtain ⟨hi, hf⟩ := gIx_some hf
    refine va_iald hx hb hK hP 2 1 rfl rfl hi dX6_welcomePigeons_13 ?_
    refine lv_if_eq (tgt := 30) hx hb dX6_welcomePigeons_14 (by decide) (fun hc => ?_) (fun hc => ?_)
    · have hf := o_t hc hf
      cases hf
      exact kR _ _ _ _ hP hD hS dX6_welcomePigeons_30
    · have hf := o_f hc hf
      refine lv_aload_n hx hb dX6_welcomePigeons_17 rfl (lv_at hl 0 rfl) ?_
      refine va_get (D := D) (ci := 6) (v := .ref a17) (C := RX6) (T := TX6) (N := 15) hx hb hts in_X6 hown hK hP 1 rfl rfl 11 (by decide) lk_41 (fun _ h9 => h9) rfl dX6_welcomePigeons_18 ?_
      refine lv_iload_n hx hb dX6_welcomePigeons_21 rfl (lv_at hl 2 rfl) ?_
      obtain ⟨hi, hf⟩ := gIx_some hf
      refine va_iald hx hb hK hP 3 1 rfl rfl hi dX6_welcomePigeons_22 ?_
      refine lv_aload_n hx hb dX6_welcomePigeons_23 rfl (lv_at hl 0 rfl) ?_
      refine va_get (D := D) (ci := 6) (v := .int day) (C := RX6) (T := TX6) (N := 15) hx hb hts in_X6 hown hK hP 1 rfl rfl 6 (by decide) lk_63 (fun _ h9 => h9) rfl dX6_welcomePigeons_24 ?_
      refine lv_icmp_eq (tgt := 31) hx hb dX6_welcomePigeons_27 (by decide) (fun hc => ?_) (fun hc => ?_)
      · have hf := o_t hc hf
        refine lv_iconst (v := 0) hx hb dX6_welcomePigeons_31 (by decide) ?_
        refine lv_istore_n (lv' := [(3, .int 0), (0, .ref a9), (1, .ref a0), (2, .int x2)]) hx hb dX6_welcomePigeons_32 rfl hl (by decide) rfl (fun ls hl => ?_)
        have L33 : ∀ (n : Nat) (y3_33 : Int32) (loft2_33 : Int32) (count_33 : Int32) (kind_33 : Nat → Int32) (number_33 : Nat → Int32) (day2_33 : Nat → Int32) (y3_33o : Int32) (loft2_33o : Int32) (count_33o : Int32) (kind_33o : Nat → Int32) (number_33o : Nat → Int32) (day2_33o : Nat → Int32), f_X6_welcomePigeons_33 N day homing x2 n y3_33 loft2_33 count_33 kind_33 number_33 day2_33 = some (y3_33o, loft2_33o, count_33o, kind_33o, number_33o, day2_33o) → (∀ (H : Heap) (locs : List Loc) (ls : Array Slot), va_P D vwCl (w_X6_welcomePigeons kc a0 a1 a2 a3 a4 a5 a6 a7 a8 a9 a10 a11 a12 a13 a14 a15 a16 a17 a18 a19 a20 a21 regions balloons letters loft start seed day wind loft2_33o lost launchCount drawState homing due count_33o kind_33o number_33o day2_33o cargo letters2 answeredOn) H → va_D A (w_X6_welcomePigeons kc a0 a1 a2 a3 a4 a5 a6 a7 a8 a9 a10 a11 a12 a13 a14 a15 a16 a17 a18 a19 a20 a21 regions balloons letters loft start seed day wind loft2_33o lost launchCount drawState homing due count_33o kind_33o number_33o day2_33o cargo letters2 answeredOn) → va_S A s.heap H locs → lv_has ls 4 [(0, .ref a9), (1, .ref a0), (2, .int x2), (3, .int y3_33o)] → W p l e ({ frames := 2, cells := 0, slots := 0, locals := 44 }) s m (([.ref a9, .ref a0, .int x2] : List Value).toArray) below meth c H locs 0 0 Q (F0 m 72 ls [])) → ∀ (H : Heap) (locs : List Loc) (ls : Array Slot), va_P D vwCl (w_X6_welcomePigeons kc a0 a1 a2 a3 a4 a5 a6 a7 a8 a9 a10 a11 a12 a13 a14 a15 a16 a17 a18 a19 a20 a21 regions balloons letters loft start seed day wind loft2_33 lost launchCount drawState homing due count_33 kind_33 number_33 day2_33 cargo letters2 answeredOn) H → va_D A (w_X6_welcomePigeons kc a0 a1 a2 a3 a4 a5 a6 a7 a8 a9 a10 a11 a12 a13 a14 a15 a16 a17 a18 a19 a20 a21 regions balloons letters loft start seed day wind loft2_33 lost launchCount drawState homing due count_33 kind_33 number_33 day2_33 cargo letters2 answeredOn) → va_S A s.heap H locs → lv_has ls 4 [(0, .ref a9), (1, .ref a0), (2, .int x2), (3, .int y3_33)] → W p l e ({ frames := 2, cells := 0, slots := 0, locals := 44 }) s m (([.ref a9, .ref a0, .int x2] : List Value).toArray) below meth c H locs 0 0 Q (F0 m 33 ls []) := by
          intro n
          induction n with
          | zero => intro _ _ _ _ _ _ _ _ _ _ _ _ hf; rw [f_X6_welcomePigeons_33.eq_1] at hf; cases hf
          | succ n ih =>
            intro y3_33 loft2_33 count_33 kind_33 number_33 day2_33 y3_33o loft2_33o count_33o kind_33o number_33o day2_33o hf hk H locs ls hP hD hS hl
            rw [f_X6_welcomePigeons_33.eq_2] at hf
            refine lv_iload_n hx hb dX6_welcomePigeons_33 rfl (lv_at hl 3 rfl) ?_
            refine lv_aload_n hx hb dX6_welcomePigeons_34 rfl (lv_at hl 0 rfl) ?_
            refine va_get (D := D) (ci := 6) (v := .ref a16) (C := RX6) (T := TX6) (N := 15) hx hb hts in_X6 hown hK hP 1 rfl rfl 10 (by decide) lk_38 (fun _ h9 => h9) rfl dX6_welcomePigeons_35 ?_
            refine lv_iload_n hx hb dX6_welcomePigeons_38 rfl (lv_at hl 2 rfl) ?_
            obtain ⟨hi, hf⟩ := gIx_some hf
            refine va_iald hx hb hK hP 2 1 rfl rfl hi dX6_welcomePigeons_39 ?_
            refine lv_icmp_ge (tgt := 72) hx hb dX6_welcomePigeons_40 (by decide) (fun hc => ?_) (fun hc => ?_)
            · have hf := o_t hc hf
              cases hf
              exact hk _ _ _ hP hD hS (lv_sub hl [0, 1, 2, 3] rfl)
            · have hf := o_f hc hf
              refine lv_aload_n hx hb dX6_welcomePigeons_43 rfl (lv_at hl 0 rfl) ?_
              refine lv_dup hx hb dX6_welcomePigeons_44 rfl ?_
              refine va_get (D := D) (ci := 6) (v := .int loft2_33) (C := RX6) (T := TX6) (N := 15) hx hb hts in_X6 hown hK hP 1 rfl rfl 8 (by decide) lk_79 (fun _ h9 => h9) rfl dX6_welcomePigeons_45 ?_
              refine lv_iconst (v := 1) hx hb dX6_welcomePigeons_48 (by decide) ?_
              refine lv_iadd hx hb dX6_welcomePigeons_49 ?_
              refine va_put (D := D) (ci := 6) (v := .int (loft2_33 + 1)) (ty := .int) (C := RX6) (T := TX6) (N := 15) hx hb hts in_X6 tyX6 tyX6_ok nmX6 hown hK hP hD hS 1 rfl rfl 8 (by decide) lk_79 (fun _ h9 => h9) rfl (by decide +kernel) rfl rfl (Nat.le_of_ble_eq_true rfl) dX6_welcomePigeons_50 (fun H locs hP hD hS => ?_)
              have hP : va_P D vwCl (w_X6_welcomePigeons kc a0 a1 a2 a3 a4 a5 a6 a7 a8 a9 a10 a11 a12 a13 a14 a15 a16 a17 a18 a19 a20 a21 regions balloons letters loft start seed day wind (loft2_33 + 1) lost launchCount drawState homing due count_33 kind_33 number_33 day2_33 cargo letters2 answeredOn) H := hP
              have hD : va_D A (w_X6_welcomePigeons kc a0 a1 a2 a3 a4 a5 a6 a7 a8 a9 a10 a11 a12 a13 a14 a15 a16 a17 a18 a19 a20 a21 regions balloons letters loft start seed day wind (loft2_33 + 1) lost launchCount drawState homing due count_33 kind_33 number_33 day2_33 cargo letters2 answeredOn) := hD
              refine lv_aload_n hx hb dX6_welcomePigeons_53 rfl (lv_at hl 0 rfl) ?_
              refine va_get (D := D) (ci := 6) (v := .ref a10) (C := RX6) (T := TX6) (N := 15) hx hb hts in_X6 hown hK hP 1 rfl rfl 0 (by decide) lk_12 (fun _ h9 => h9) rfl dX6_welcomePigeons_54 ?_
              refine lv_iconst (v := 4) hx hb dX6_welcomePigeons_57 (by decide) ?_
              refine lv_iload_n hx hb dX6_welcomePigeons_58 rfl (lv_at hl 2 rfl) ?_
              refine lv_aload_n hx hb dX6_welcomePigeons_59 rfl (lv_at hl 0 rfl) ?_
              refine va_get (D := D) (ci := 6) (v := .int day) (C := RX6) (T := TX6) (N := 15) hx hb hts in_X6 hown hK hP 1 rfl rfl 6 (by decide) lk_63 (fun _ h9 => h9) rfl dX6_welcomePigeons_60 ?_
              obtain ⟨count_3, kind_4, number_5, day2_6, hc, hf⟩ := ob4_some hf
              refine g_VV (As := [.int 4, .int x2, .int day]) (rest := []) (ws' := (w_X6_welcomePigeons kc a0 a1 a2 a3 a4 a5 a6 a7 a8 a9 a10 a11 a12 a13 a14 a15 a16 a17 a18 a19 a20 a21 regions balloons letters loft start seed day wind (loft2_33 + 1) lost launchCount drawState homing due count_3 kind_4 number_5 day2_6 cargo letters2 answeredOn)) ⟨hx, hb, hml, hown, hts⟩ hN hK hP hD hS hA (c_X1_add l D kc N a10 a19 a20 a21 count_33 kind_33 number_33 day2_33 4 x2 day count_3 kind_4 number_5 day2_6 hc) (cwV 3 hts gX6_welcomePigeons_X1_add rfl rfl rfl (by decide +kernel) ⟨Nat.le_of_ble_eq_true rfl, Nat.le_of_ble_eq_true rfl⟩) [4, 5, 6, 7] [0, 1, 2, 3, 8, 9, 10] [0, 1, 2, 3, 7, 8, 9, 10, 4, 5, 6] (by exact ⟨rfl, rfl, by decide, rfl⟩) 4 1 rfl rfl rfl rfl hl.1 rfl (Nat.le_of_ble_eq_true rfl) dX6_welcomePigeons_63 ⟨Nat.le_refl _, Nat.le_refl _⟩ (fun H locs hP hD hS => ?_)
              refine lv_iinc (v := (y3_33 + 1)) (lv' := [(3, .int (y3_33 + 1)), (0, .ref a9), (1, .ref a0), (2, .int x2)]) hx hb dX6_welcomePigeons_66 hl (k := 3) rfl (by rfl) (by decide) rfl (fun ls hl => ?_)
              refine lv_goto (tgt := 33) hx hb dX6_welcomePigeons_69 (by decide) ?_
              exact ih _ _ _ _ _ _ _ _ _ _ _ _ hf hk _ _ _ hP hD hS (lv_sub hl [1, 2, 3, 0] rfl)
        obtain ⟨y3_33o, loft2_33o, count_33o, kind_33o, number_33o, day2_33o, hc, hf⟩ := ob6_some hf
        refine L33 N _ _ _ _ _ _ _ _ _ _ _ _ hc (fun H locs ls hP hD hS hl => ?_) _ _ _ hP hD hS (lv_sub hl [1, 2, 3, 0] rfl)
        refine lv_aload_n hx hb dX6_welcomePigeons_72 rfl (lv_at hl 0 rfl) ?_
        refine va_get (D := D) (ci := 6) (v := .ref a16) (C := RX6) (T := TX6) (N := 15) hx hb hts in_X6 hown hK hP 1 rfl rfl 10 (by decide) lk_38 (fun _ h9 => h9) rfl dX6_welcomePigeons_73 ?_
        refine lv_iload_n hx hb dX6_welcomePigeons_76 rfl (lv_at hl 2 rfl) ?_
        refine lv_iconst (v := 0) hx hb dX6_welcomePigeons_77 (by decide) ?_
        obtain ⟨hi, hf⟩ := gIx_some hf
        refine va_iast hx hb hK hP hD hS 2 1 rfl rfl hi dX6_welcomePigeons_78 (fun H locs hP hD hS => ?_)
        have hP : va_P D vwCl (w_X6_welcomePigeons kc a0 a1 a2 a3 a4 a5 a6 a7 a8 a9 a10 a11 a12 a13 a14 a15 a16 a17 a18 a19 a20 a21 regions balloons letters loft start seed day wind loft2_33o lost launchCount drawState (upd homing (x2 : Int32).toNatClampNeg 0) due count_33o kind_33o number_33o day2_33o cargo letters2 answeredOn) H := hP
        have hD : va_D A (w_X6_welcomePigeons kc a0 a1 a2 a3 a4 a5 a6 a7 a8 a9 a10 a11 a12 a13 a14 a15 a16 a17 a18 a19 a20 a21 regions balloons letters loft start seed day wind loft2_33o lost launchCount drawState (upd homing (x2 : Int32).toNatClampNeg 0) due count_33o kind_33o number_33o day2_33o cargo letters2 answeredOn) := hD
        refine lv_aload_n hx hb dX6_welcomePigeons_79 rfl (lv_at hl 0 rfl) ?_
        refine lv_aload_n hx hb dX6_welcomePigeons_80 rfl (lv_at hl 1 rfl) ?_
        refine lv_aload_n hx hb dX6_welcomePigeons_81 rfl (lv_at hl 0 rfl) ?_
        refine va_get (D := D) (ci := 6) (v := .ref a13) (C := RX6) (T := TX6) (N := 15) hx hb hts in_X6 hown hK hP 1 rfl rfl 3 (by decide) lk_25 (fun _ h9 => h9) rfl dX6_welcomePigeons_82 ?_
        refine lv_iload_n hx hb dX6_welcomePigeons_85 rfl (lv_at hl 2 rfl) ?_
        obtain ⟨hi, hf⟩ := gIx_some hf
        refine va_iald hx hb hK hP 8 1 rfl rfl hi dX6_welcomePigeons_86 ?_
        obtain ⟨letters2_7, answeredOn_8, hc, hf⟩ := ob2_some hf
        refine g_VV (As := [.ref a0, .int (cargo (x2 : Int32).toNatClampNeg)]) (rest := []) (ws' := (w_X6_welcomePigeons kc a0 a1 a2 a3 a4 a5 a6 a7 a8 a9 a10 a11 a12 a13 a14 a15 a16 a17 a18 a19 a20 a21 regions balloons letters loft start seed day wind loft2_33o lost launchCount drawState (upd homing (x2 : Int32).toNatClampNeg 0) due count_33o kind_33o number_33o day2_33o cargo letters2_7 answeredOn_8)) ⟨hx, hb, hml, hown, hts⟩ hN hK hP hD hS hA (c_X6_answer l D kc N a9 a10 a11 a12 a13 a14 a15 a16 a17 a18 a0 a1 a2 a3 a4 a5 a6 a7 a8 day wind loft2_33o lost launchCount drawState letters2 regions balloons letters loft start seed answeredOn (cargo (x2 : Int32).toNatClampNeg) letters2_7 answeredOn_8 hc) (cwV 2 hts gX6_welcomePigeons_X6_answer rfl rfl rfl (by decide +kernel) ⟨Nat.le_of_ble_eq_true rfl, Nat.le_of_ble_eq_true rfl⟩) [1, 9, 0, 10] [2, 3, 4, 5, 6, 7, 8] [9, 7, 0, 1, 2, 3, 4, 5, 6, 8, 10] (by exact ⟨rfl, rfl, by decide, rfl⟩) 1 6 rfl rfl rfl rfl hl.1 rfl (Nat.le_of_ble_eq_true rfl) dX6_welcomePigeons_87 ⟨Nat.le_refl _, Nat.le_refl _⟩ (fun H locs hP hD hS => ?_)
        cases hf
        exact kR _ _ _ _ hP hD hS dX6_welcomePigeons_90
      · have hf := o_f hc hf
        cases hf
        exact kR _ _ _ _ hP hD hS dX6_welcomePigeons_30
abbrev w_X6_passDay (kc : Nat → ClassId) (a0 a1 a2 a3 a4 a5 a6 a7 a8 a9 a10 a11 a12 a13 a14 a15 a16 a17 a18 a19 a20 a21 a22 a23 a24 a25 a26 a27 : Nat) (day : Int32) (wind : Int32) (loft : Int32) (lost : Int32) (launchCount : Int32) (drawState : Int64) (regions : Int32) (balloons : Int32) (letters : Int32) (loft2 : Int32) (start : Int32) (seed : Int32) (count : Int32) (turnCount : Int32) (turnFrom : Nat → Int32) (turnTo : Nat → Int32) (follow : Nat → Int32) (count2 : Int32) (kind : Nat → Int32) (number : Nat → Int32) (day2 : Nat → Int32) (launched : Nat → Int32) (homing : Nat → Int32) (due : Nat → Int32) (cargo : Nat → Int32) (letters2 : Nat → Int32) (answeredOn : Nat → Int32) : va_W := [(a0, .inr (6, [.ref a1, .ref a2, .ref a3, .ref a4, .ref a5, .ref a6, .int day, .int wind, .int loft, .int lost, .ref a7, .ref a8, .ref a9, .int launchCount, .long drawState])), (a10, .inr (5, [.ref a11, .ref a12, .ref a13, .ref a14, .ref a15, .ref a16, .ref a17, .ref a18, .int regions, .int balloons, .int letters, .int loft2, .int start, .int seed])), (a11, .inr (7, [.int count, .int turnCount, .ref a19, .ref a20, .ref a21, .ref a22, .ref a23, .ref a24])), (a19, .inl (kc 1, 30, .inl turnFrom)), (a20, .inl (kc 1, 30, .inl turnTo)), (a21, .inl (kc 1, 36, .inl follow)), (a1, .inr (1, [.ref a25, .ref a26, .ref a27, .int count2])), (a25, .inl (kc 1, 16, .inl kind)), (a26, .inl (kc 1, 16, .inl number)), (a27, .inl (kc 1, 16, .inl day2)), (a9, .inl (kc 1, 10, .inl launched)), (a7, .inl (kc 1, 10, .inl homing)), (a8, .inl (kc 1, 10, .inl due)), (a4, .inl (kc 1, 10, .inl cargo)), (a5, .inl (kc 1, 4, .inl letters2)), (a6, .inl (kc 1, 24, .inl answeredOn))]
set_option maxHeartbeats 4000000 in
set_option maxRecDepth 100000 in
theorem c_X6_passDay (l : Launch) (D : va_G) (kc : Nat → ClassId) (N : Nat) (a0 a1 a2 a3 a4 a5 a6 a7 a8 a9 a10 a11 a12 a13 a14 a15 a16 a17 a18 a19 a20 a21 a22 a23 a24 a25 a26 a27 : Nat) (day : Int32) (wind : Int32) (loft : Int32) (lost : Int32) (launchCount : Int32) (drawState : Int64) (regions : Int32) (balloons : Int32) (letters : Int32) (loft2 : Int32) (start : Int32) (seed : Int32) (count : Int32) (turnCount : Int32) (turnFrom : Nat → Int32) (turnTo : Nat → Int32) (follow : Nat → Int32) (count2 : Int32) (kind : Nat → Int32) (number : Nat → Int32) (day2 : Nat → Int32) (launched : Nat → Int32) (homing : Nat → Int32) (due : Nat → Int32) (cargo : Nat → Int32) (letters2 : Nat → Int32) (answeredOn : Nat → Int32) (day' : Int32) (wind' : Int32) (loft' : Int32) (drawState' : Int64) (count2' : Int32) (kind' : Nat → Int32) (number' : Nat → Int32) (day2' : Nat → Int32) (homing' : Nat → Int32) (letters2' : Nat → Int32) (answeredOn' : Nat → Int32) (hf : f_X6_passDay N day wind loft launchCount drawState balloons letters count turnCount turnFrom turnTo follow count2 kind number day2 launched homing due cargo letters2 answeredOn = some (day', wind', loft', drawState', count2', kind', number', day2', homing', letters2', answeredOn')) : MV l yX6_passDay wsX6_passDay ({ frames := 3, cells := 0, slots := 0, locals := 67 }) D kc [.ref a0, .ref a10] (w_X6_passDay kc a0 a1 a2 a3 a4 a5 a6 a7 a8 a9 a10 a11 a12 a13 a14 a15 a16 a17 a18 a19 a20 a21 a22 a23 a24 a25 a26 a27 day wind loft lost launchCount drawState regions balloons letters loft2 start seed count turnCount turnFrom turnTo follow count2 kind number day2 launched homing due cargo letters2 answeredOn) (w_X6_passDay kc a0 a1 a2 a3 a4 a5 a6 a7 a8 a9 a10 a11 a12 a13 a14 a15 a16 a17 a18 a19 a20 a21 a22 a23 a24 a25 a26 a27 day' wind' loft' lost launchCount drawState' regions balloons letters loft2 start seed count turnCount turnFrom turnTo follow count2' kind' number' day2' launched homing' due cargo letters2' answeredOn') := by
  refine gM_V (cc := cX6_passDay) (maxL := 3) (by decide) rfl (Nat.le_of_ble_eq_true rfl) ?_
  intro p e s m below meth c A ls Q hx hb hml hown hts hN hK hP hD hA hl kR
  have hS : va_S A s.heap s.heap [] := va_S.rf
  have hl : lv_has ls 3 [(0, .ref a0), (1, .ref a10)] := hl
  have in_X6 : ∀ w ∈ u_ws RX6 TX6 15, w ∈ wsX6_passDay := by decide +kernel
  have lk_63 := hts (.fieldLink RX6 63 "BalloonMail$State" "day" "I") (by decide +kernel)
  have in_X5 : ∀ w ∈ u_ws RX5 TX5 14, w ∈ wsX6_passDay := by decide +kernel
  have lk_66 := hts (.fieldLink RX6 66 "BalloonMail$Siege" "winds" "LBalloonMail$Winds;") (by decide +kernel)
  have in_X7 : ∀ w ∈ u_ws RX7 TX7 8, w ∈ wsX6_passDay := by decide +kernel
  have lk_70 := hts (.fieldLink RX6 70 "BalloonMail$Winds" "count" "I") (by decide +kernel)
  have lk_60 := hts (.fieldLink RX6 60 "BalloonMail$State" "launchCount" "I") (by decide +kernel)
  have lk_44 := hts (.fieldLink RX6 44 "BalloonMail$State" "launched" "[I") (by decide +kernel)
  have lk_34 := hts (.fieldLink RX6 34 "BalloonMail$State" "wind" "I") (by decide +kernel)
  have J39 : ∀ (day_39 : Int32) (wind_39 : Int32) (drawState_39 : Int64) (count2_39 : Int32) (kind_39 : Nat → Int32) (number_39 : Nat → Int32) (day2_39 : Nat → Int32), f_X6_passDay_j39 N loft launchCount balloons letters launched homing due cargo letters2 answeredOn day_39 wind_39 drawState_39 count2_39 kind_39 number_39 day2_39 = some (day', wind', loft', drawState', count2', kind', number', day2', homing', letters2', answeredOn') → ∀ (H : Heap) (locs : List Loc) (ls : Array Slot), va_P D vwCl (w_X6_passDay kc a0 a1 a2 a3 a4 a5 a6 a7 a8 a9 a10 a11 a12 a13 a14 a15 a16 a17 a18 a19 a20 a21 a22 a23 a24 a25 a26 a27 day_39 wind_39 loft lost launchCount drawState_39 regions balloons letters loft2 start seed count turnCount turnFrom turnTo follow count2_39 kind_39 number_39 day2_39 launched homing due cargo letters2 answeredOn) H → va_D A (w_X6_passDay kc a0 a1 a2 a3 a4 a5 a6 a7 a8 a9 a10 a11 a12 a13 a14 a15 a16 a17 a18 a19 a20 a21 a22 a23 a24 a25 a26 a27 day_39 wind_39 loft lost launchCount drawState_39 regions balloons letters loft2 start seed count turnCount turnFrom turnTo follow count2_39 kind_39 number_39 day2_39 launched homing due cargo letters2 answeredOn) → va_S A s.heap H locs → lv_has ls 3 [(0, .ref a0), (1, .ref a10)] → W p l e ({ frames := 3, cells := 0, slots := 0, locals := 67 }) s m (([.ref a0, .ref a10] : List Value).toArray) below meth c H locs 0 0 Q (F0 m 39 ls []) := by
    clear hf
    intro day_39 wind_39 drawState_39 count2_39 kind_39 number_39 day2_39 hf H locs ls hP hD hS hl
    unfold f_X6_passDay_j39 at hf
    refine lv_iconst (v := 0) hx hb dX6_passDay_39 (by decide) ?_
    refine lv_istore_n (lv' := [(2, .int 0), (0, .ref a0), (1, .ref a10)]) hx hb dX6_passDay_40 rfl hl (by decide) rfl (fun ls hl => ?_)
    have L41 : ∀ (n : Nat) (y2_41 : Int32) (loft_41 : Int32) (count2_41 : Int32) (kind_41 : Nat → Int32) (number_41 : Nat → Int32) (day2_41 : Nat → Int32) (homing_41 : Nat → Int32) (letters2_41 : Nat → Int32) (answeredOn_41 : Nat → Int32) (y2_41o : Int32) (loft_41o : Int32) (count2_41o : Int32) (kind_41o : Nat → Int32) (number_41o : Nat → Int32) (day2_41o : Nat → Int32) (homing_41o : Nat → Int32) (letters2_41o : Nat → Int32) (answeredOn_41o : Nat → Int32), f_X6_passDay_41 N launchCount balloons letters launched due cargo day_39 n y2_41 loft_41 count2_41 kind_41 number_41 day2_41 homing_41 letters2_41 answeredOn_41 = some (y2_41o, loft_41o, count2_41o, kind_41o, number_41o, day2_41o, homing_41o, letters2_41o, answeredOn_41o) → (∀ (H : Heap) (locs : List Loc) (ls : Array Slot), va_P D vwCl (w_X6_passDay kc a0 a1 a2 a3 a4 a5 a6 a7 a8 a9 a10 a11 a12 a13 a14 a15 a16 a17 a18 a19 a20 a21 a22 a23 a24 a25 a26 a27 day_39 wind_39 loft_41o lost launchCount drawState_39 regions balloons letters loft2 start seed count turnCount turnFrom turnTo follow count2_41o kind_41o number_41o day2_41o launched homing_41o due cargo letters2_41o answeredOn_41o) H → va_D A (w_X6_passDay kc a0 a1 a2 a3 a4 a5 a6 a7 a8 a9 a10 a11 a12 a13 a14 a15 a16 a17 a18 a19 a20 a21 a22 a23 a24 a25 a26 a27 day_39 wind_39 loft_41o lost launchCount drawState_39 regions balloons letters loft2 start seed count turnCount turnFrom turnTo follow count2_41o kind_41o number_41o day2_41o launched homing_41o due cargo letters2_41o answeredOn_41o) → va_S A s.heap H locs → lv_has ls 3 [(0, .ref a0), (1, .ref a10), (2, .int y2_41o)] → W p l e ({ frames := 3, cells := 0, slots := 0, locals := 67 }) s m (([.ref a0, .ref a10] : List Value).toArray) below meth c H locs 0 0 Q (F0 m 72 ls [])) → ∀ (H : Heap) (locs : List Loc) (ls : Array Slot), va_P D vwCl (w_X6_passDay kc a0 a1 a2 a3 a4 a5 a6 a7 a8 a9 a10 a11 a12 a13 a14 a15 a16 a17 a18 a19 a20 a21 a22 a23 a24 a25 a26 a27 day_39 wind_39 loft_41 lost launchCount drawState_39 regions balloons letters loft2 start seed count turnCount turnFrom turnTo follow count2_41 kind_41 number_41 day2_41 launched homing_41 due cargo letters2_41 answeredOn_41) H → va_D A (w_X6_passDay kc a0 a1 a2 a3 a4 a5 a6 a7 a8 a9 a10 a11 a12 a13 a14 a15 a16 a17 a18 a19 a20 a21 a22 a23 a24 a25 a26 a27 day_39 wind_39 loft_41 lost launchCount drawState_39 regions balloons letters loft2 start seed count turnCount turnFrom turnTo follow count2_41 kind_41 number_41 day2_41 launched homing_41 due cargo letters2_41 answeredOn_41) → va_S A s.heap H locs → lv_has ls 3 [(0, .ref a0), (1, .ref a10), (2, .int y2_41)] → W p l e ({ frames := 3, cells := 0, slots := 0, locals := 67 }) s m (([.ref a0, .ref a10] : List Value).toArray) below meth c H locs 0 0 Q (F0 m 41 ls []) := by
      intro n
      induction n with
      | zero => intro _ _ _ _ _ _ _ _ _ _ _ _ _ _ _ _ _ _ hf; rw [f_X6_passDay_41.eq_1] at hf; cases hf
      | succ n ih =>
        intro y2_41 loft_41 count2_41 kind_41 number_41 day2_41 homing_41 letters2_41 answeredOn_41 y2_41o loft_41o count2_41o kind_41o number_41o day2_41o homing_41o letters2_41o answeredOn_41o hf hk H locs ls hP hD hS hl
        rw [f_X6_passDay_41.eq_2] at hf
        refine lv_iload_n hx hb dX6_passDay_41 rfl (lv_at hl 2 rfl) ?_
        refine lv_aload_n hx hb dX6_passDay_42 rfl (lv_at hl 0 rfl) ?_
        refine va_get (D := D) (ci := 6) (v := .int launchCount) (C := RX6) (T := TX6) (N := 15) hx hb hts in_X6 hown hK hP 0 rfl rfl 13 (by decide) lk_60 (fun _ h9 => h9) rfl dX6_passDay_43 ?_
        refine lv_icmp_ge (tgt := 72) hx hb dX6_passDay_46 (by decide) (fun hc => ?_) (fun hc => ?_)
        · have hf := o_t hc hf
          cases hf
          exact hk _ _ _ hP hD hS (lv_sub hl [0, 1, 2] rfl)
        · have hf := o_f hc hf
          refine lv_iload_n hx hb dX6_passDay_49 rfl (lv_at hl 2 rfl) ?_
          refine lv_bipush (v := 10) hx hb dX6_passDay_50 (by decide) ?_
          refine lv_icmp_ge (tgt := 72) hx hb dX6_passDay_52 (by decide) (fun hc => ?_) (fun hc => ?_)
          · have hf := o_t hc hf
            cases hf
            exact hk _ _ _ hP hD hS (lv_sub hl [0, 1, 2] rfl)
          · have hf := o_f hc hf
            refine lv_aload_n hx hb dX6_passDay_55 rfl (lv_at hl 0 rfl) ?_
            refine lv_aload_n hx hb dX6_passDay_56 rfl (lv_at hl 1 rfl) ?_
            refine lv_aload_n hx hb dX6_passDay_57 rfl (lv_at hl 0 rfl) ?_
            refine va_get (D := D) (ci := 6) (v := .ref a9) (C := RX6) (T := TX6) (N := 15) hx hb hts in_X6 hown hK hP 0 rfl rfl 12 (by decide) lk_44 (fun _ h9 => h9) rfl dX6_passDay_58 ?_
            refine lv_iload_n hx hb dX6_passDay_61 rfl (lv_at hl 2 rfl) ?_
            obtain ⟨hi, hf⟩ := gIx_some hf
            refine va_iald hx hb hK hP 10 1 rfl rfl hi dX6_passDay_62 ?_
            obtain ⟨loft_1, homing_2, count2_3, kind_4, number_5, day2_6, letters2_7, answeredOn_8, hc, hf⟩ := ob8_some hf
            refine g_VV (As := [.ref a10, .int (launched (y2_41 : Int32).toNatClampNeg)]) (rest := []) (ws' := (w_X6_passDay kc a0 a1 a2 a3 a4 a5 a6 a7 a8 a9 a10 a11 a12 a13 a14 a15 a16 a17 a18 a19 a20 a21 a22 a23 a24 a25 a26 a27 day_39 wind_39 loft_1 lost launchCount drawState_39 regions balloons letters loft2 start seed count turnCount turnFrom turnTo follow count2_3 kind_4 number_5 day2_6 launched homing_2 due cargo letters2_7 answeredOn_8)) ⟨hx, hb, hml, hown, hts⟩ hN hK hP hD hS hA (c_X6_welcomePigeons l D kc N a10 a11 a12 a13 a14 a15 a16 a17 a18 a0 a1 a2 a3 a4 a5 a6 a7 a8 a9 a25 a26 a27 regions balloons letters loft2 start seed day_39 wind_39 loft_41 lost launchCount drawState_39 homing_41 due count2_41 kind_41 number_41 day2_41 cargo letters2_41 answeredOn_41 (launched (y2_41 : Int32).toNatClampNeg) loft_1 homing_2 count2_3 kind_4 number_5 day2_6 letters2_7 answeredOn_8 hc) (cwV 2 hts gX6_passDay_X6_welcomePigeons rfl rfl rfl (by decide +kernel) ⟨Nat.le_of_ble_eq_true rfl, Nat.le_of_ble_eq_true rfl⟩) [1, 0, 11, 12, 6, 7, 8, 9, 13, 14, 15] [2, 3, 4, 5, 10] [6, 5, 0, 1, 2, 3, 9, 10, 11, 12, 4, 7, 8, 13, 14, 15] (by exact ⟨rfl, rfl, by decide, rfl⟩) 0 6 rfl rfl rfl rfl hl.1 rfl (Nat.le_of_ble_eq_true rfl) dX6_passDay_63 ⟨Nat.le_refl _, Nat.le_refl _⟩ (fun H locs hP hD hS => ?_)
            refine lv_iinc (v := (y2_41 + 1)) (lv' := [(2, .int (y2_41 + 1)), (0, .ref a0), (1, .ref a10)]) hx hb dX6_passDay_66 hl (k := 2) rfl (by rfl) (by decide) rfl (fun ls hl => ?_)
            refine lv_goto (tgt := 41) hx hb dX6_passDay_69 (by decide) ?_
            exact ih _ _ _ _ _ _ _ _ _ _ _ _ _ _ _ _ _ _ hf hk _ _ _ hP hD hS (lv_sub hl [1, 2, 0] rfl)
    obtain ⟨y2_41o, loft_41o, count2_41o, kind_41o, number_41o, day2_41o, homing_41o, letters2_41o, answeredOn_41o, hc, hf⟩ := ob9_some hf
    refine L41 N _ _ _ _ _ _ _ _ _ _ _ _ _ _ _ _ _ _ hc (fun H locs ls hP hD hS hl => ?_) _ _ _ hP hD hS (lv_sub hl [1, 2, 0] rfl)
    cases hf
    exact kR _ _ _ _ hP hD hS dX6_passDay_72
  unfold f_X6_passDay at hf
  refine lv_aload_n hx hb dX6_passDay_0 rfl (lv_at hl 0 rfl) ?_
  refine lv_dup hx hb dX6_passDay_1 rfl ?_
  refine va_get (D := D) (ci := 6) (v := .int day) (C := RX6) (T := TX6) (N := 15) hx hb hts in_X6 hown hK hP 0 rfl rfl 6 (by decide) lk_63 (fun _ h9 => h9) rfl dX6_passDay_2 ?_
  refine lv_iconst (v := 1) hx hb dX6_passDay_5 (by decide) ?_
  refine lv_iadd hx hb dX6_passDay_6 ?_
  refine va_put (D := D) (ci := 6) (v := .int (day + 1)) (ty := .int) (C := RX6) (T := TX6) (N := 15) hx hb hts in_X6 tyX6 tyX6_ok nmX6 hown hK hP hD hS 0 rfl rfl 6 (by decide) lk_63 (fun _ h9 => h9) rfl (by decide +kernel) rfl rfl (Nat.le_of_ble_eq_true rfl) dX6_passDay_7 (fun H locs hP hD hS => ?_)
  have hP : va_P D vwCl (w_X6_passDay kc a0 a1 a2 a3 a4 a5 a6 a7 a8 a9 a10 a11 a12 a13 a14 a15 a16 a17 a18 a19 a20 a21 a22 a23 a24 a25 a26 a27 (day + 1) wind loft lost launchCount drawState regions balloons letters loft2 start seed count turnCount turnFrom turnTo follow count2 kind number day2 launched homing due cargo letters2 answeredOn) H := hP
  have hD : va_D A (w_X6_passDay kc a0 a1 a2 a3 a4 a5 a6 a7 a8 a9 a10 a11 a12 a13 a14 a15 a16 a17 a18 a19 a20 a21 a22 a23 a24 a25 a26 a27 (day + 1) wind loft lost launchCount drawState regions balloons letters loft2 start seed count turnCount turnFrom turnTo follow count2 kind number day2 launched homing due cargo letters2 answeredOn) := hD
  refine lv_aload_n hx hb dX6_passDay_10 rfl (lv_at hl 1 rfl) ?_
  refine va_get (D := D) (ci := 5) (v := .ref a11) (C := RX5) (T := TX5) (N := 14) hx hb hts in_X5 hown hK hP 1 rfl rfl 0 (by decide) lk_66 (fun _ h9 => h9) rfl dX6_passDay_11 ?_
  refine va_get (D := D) (ci := 7) (v := .int count) (C := RX7) (T := TX7) (N := 8) hx hb hts in_X7 hown hK hP 2 rfl rfl 0 (by decide) lk_70 (fun _ h9 => h9) rfl dX6_passDay_14 ?_
  refine lv_if_le (tgt := 39) hx hb dX6_passDay_17 (by decide) (fun hc => ?_) (fun hc => ?_)
  · have hf := o_t hc hf
    exact J39 _ _ _ _ _ _ _ hf _ _ _ hP hD hS (lv_sub hl [0, 1] rfl)
  · have hf := o_f hc hf
    refine lv_aload_n hx hb dX6_passDay_20 rfl (lv_at hl 0 rfl) ?_
    refine lv_aload_n hx hb dX6_passDay_21 rfl (lv_at hl 1 rfl) ?_
    refine va_get (D := D) (ci := 5) (v := .ref a11) (C := RX5) (T := TX5) (N := 14) hx hb hts in_X5 hown hK hP 1 rfl rfl 0 (by decide) lk_66 (fun _ h9 => h9) rfl dX6_passDay_22 ?_
    refine lv_aload_n hx hb dX6_passDay_25 rfl (lv_at hl 0 rfl) ?_
    refine va_get (D := D) (ci := 6) (v := .int wind) (C := RX6) (T := TX6) (N := 15) hx hb hts in_X6 hown hK hP 0 rfl rfl 7 (by decide) lk_34 (fun _ h9 => h9) rfl dX6_passDay_26 ?_
    refine lv_aload_n hx hb dX6_passDay_29 rfl (lv_at hl 0 rfl) ?_
    obtain ⟨r_9, drawState_10, hc, hf⟩ := ob2_some hf
    refine g_VI (As := []) (rest := [.int wind, .ref a11, .ref a0]) (ws' := (w_X6_passDay kc a0 a1 a2 a3 a4 a5 a6 a7 a8 a9 a10 a11 a12 a13 a14 a15 a16 a17 a18 a19 a20 a21 a22 a23 a24 a25 a26 a27 (day + 1) wind loft lost launchCount drawState_10 regions balloons letters loft2 start seed count turnCount turnFrom turnTo follow count2 kind number day2 launched homing due cargo letters2 answeredOn)) ⟨hx, hb, hml, hown, hts⟩ hN hK hP hD hS hA (c_X6_draw l D kc N a0 a1 a2 a3 a4 a5 a6 a7 a8 a9 (day + 1) wind loft lost launchCount drawState r_9 drawState_10 hc) (cwV 0 hts gX6_passDay_X6_draw rfl rfl rfl (by decide +kernel) ⟨Nat.le_of_ble_eq_true rfl, Nat.le_of_ble_eq_true rfl⟩) [0] [1, 2, 3, 4, 5, 6, 7, 8, 9, 10, 11, 12, 13, 14, 15] [15, 0, 1, 2, 3, 4, 5, 6, 7, 8, 9, 10, 11, 12, 13, 14] (by exact ⟨rfl, rfl, by decide, rfl⟩) 0 6 rfl rfl rfl rfl hl.1 rfl (Nat.le_of_ble_eq_true rfl) dX6_passDay_30 ⟨Nat.le_refl _, Nat.le_refl _⟩ (fun H locs hP hD hS => ?_)
    obtain ⟨r_11, hc, hf⟩ := ob1_some hf
    refine g_VI (As := [.int wind, .int r_9]) (rest := [.ref a0]) (ws' := (w_X6_passDay kc a0 a1 a2 a3 a4 a5 a6 a7 a8 a9 a10 a11 a12 a13 a14 a15 a16 a17 a18 a19 a20 a21 a22 a23 a24 a25 a26 a27 (day + 1) wind loft lost launchCount drawState_10 regions balloons letters loft2 start seed count turnCount turnFrom turnTo follow count2 kind number day2 launched homing due cargo letters2 answeredOn)) ⟨hx, hb, hml, hown, hts⟩ hN hK hP hD hS hA (c_X7_chooseWind l D kc N a11 a19 a20 a21 a22 a23 a24 count turnCount turnFrom turnTo follow wind r_9 r_11 hc) (cwV 2 hts gX6_passDay_X7_chooseWind rfl rfl rfl (by decide +kernel) ⟨Nat.le_of_ble_eq_true rfl, Nat.le_of_ble_eq_true rfl⟩) [2, 3, 4, 5] [0, 1, 6, 7, 8, 9, 10, 11, 12, 13, 14, 15] [0, 1, 12, 13, 14, 15, 2, 3, 4, 5, 6, 7, 8, 9, 10, 11] (by exact ⟨rfl, rfl, by decide, rfl⟩) 2 7 rfl rfl rfl rfl hl.1 rfl (Nat.le_of_ble_eq_true rfl) dX6_passDay_33 ⟨Nat.le_refl _, Nat.le_refl _⟩ (fun H locs hP hD hS => ?_)
    obtain ⟨wind_12, count2_13, kind_14, number_15, day2_16, hc, hf⟩ := ob5_some hf
    refine g_VV (As := [.int r_11]) (rest := []) (ws' := (w_X6_passDay kc a0 a1 a2 a3 a4 a5 a6 a7 a8 a9 a10 a11 a12 a13 a14 a15 a16 a17 a18 a19 a20 a21 a22 a23 a24 a25 a26 a27 (day + 1) wind_12 loft lost launchCount drawState_10 regions balloons letters loft2 start seed count turnCount turnFrom turnTo follow count2_13 kind_14 number_15 day2_16 launched homing due cargo letters2 answeredOn)) ⟨hx, hb, hml, hown, hts⟩ hN hK hP hD hS hA (c_X6_turnWind l D kc N a0 a1 a2 a3 a4 a5 a6 a7 a8 a9 a25 a26 a27 (day + 1) wind loft lost launchCount drawState_10 count2 kind number day2 r_11 wind_12 count2_13 kind_14 number_15 day2_16 hc) (cwV 1 hts gX6_passDay_X6_turnWind rfl rfl rfl (by decide +kernel) ⟨Nat.le_of_ble_eq_true rfl, Nat.le_of_ble_eq_true rfl⟩) [0, 6, 7, 8, 9] [1, 2, 3, 4, 5, 10, 11, 12, 13, 14, 15] [11, 0, 1, 2, 3, 4, 12, 13, 14, 15, 5, 6, 7, 8, 9, 10] (by exact ⟨rfl, rfl, by decide, rfl⟩) 0 6 rfl rfl rfl rfl hl.1 rfl (Nat.le_of_ble_eq_true rfl) dX6_passDay_36 ⟨Nat.le_refl _, Nat.le_refl _⟩ (fun H locs hP hD hS => ?_)
    exact J39 _ _ _ _ _ _ _ hf _ _ _ hP hD hS (lv_sub hl [0, 1] rfl)
abbrev w_X6_stateOfLetter (kc : Nat → ClassId) (a0 a1 a2 a3 a4 a5 a6 a7 a8 a9 : Nat) (day : Int32) (wind : Int32) (loft : Int32) (lost : Int32) (launchCount : Int32) (drawState : Int64) (letters : Nat → Int32) : va_W := [(a0, .inr (6, [.ref a1, .ref a2, .ref a3, .ref a4, .ref a5, .ref a6, .int day, .int wind, .int loft, .int lost, .ref a7, .ref a8, .ref a9, .int launchCount, .long drawState])), (a5, .inl (kc 1, 4, .inl letters))]
set_option maxHeartbeats 4000000 in
set_option maxRecDepth 100000 in
theorem c_X6_stateOfLetter (l : Launch) (D : va_G) (kc : Nat → ClassId) (N : Nat) (a0 a1 a2 a3 a4 a5 a6 a7 a8 a9 : Nat) (day : Int32) (wind : Int32) (loft : Int32) (lost : Int32) (launchCount : Int32) (drawState : Int64) (letters : Nat → Int32) (x1 : Int32) (r_ : Int32) (hf : f_X6_stateOfLetter N letters x1 = some r_) : MI l yX6_stateOfLetter wsX6_stateOfLetter ({ frames := 0, cells := 0, slots := 0, locals := 0 }) D kc [.ref a0, .int x1] (w_X6_stateOfLetter kc a0 a1 a2 a3 a4 a5 a6 a7 a8 a9 day wind loft lost launchCount drawState letters) (w_X6_stateOfLetter kc a0 a1 a2 a3 a4 a5 a6 a7 a8 a9 day wind loft lost launchCount drawState letters) r_ := by
  refine gM_I (cc := cX6_stateOfLetter) (maxL := 3) (by decide) rfl (Nat.le_of_ble_eq_true rfl) ?_
  intro p e s m below meth c A ls Q hx hb hml hown hts hN hK hP hD hA hl kR
  have hS : va_S A s.heap s.heap [] := va_S.rf
  have hl : lv_has ls 3 [(0, .ref a0), (1, .int x1)] := hl
  have in_X6 : ∀ w ∈ u_ws RX6 TX6 15, w ∈ wsX6_stateOfLetter := by decide +kernel
  have lk_28 := hts (.fieldLink RX6 28 "BalloonMail$State" "letters" "[I") (by decide +kernel)
  unfold f_X6_stateOfLetter at hf
  refine lv_iconst (v := 3) hx hb dX6_stateOfLetter_0 (by decide) ?_
  refine lv_istore_n (lv' := [(2, .int 3), (0, .ref a0), (1, .int x1)]) hx hb dX6_stateOfLetter_1 rfl hl (by decide) rfl (fun ls hl => ?_)
  have L2 : ∀ (n : Nat) (y2_2 : Int32), f_X6_stateOfLetter_2 N letters x1 n y2_2 = some r_ → ∀ (H : Heap) (locs : List Loc) (ls : Array Slot), va_P D vwCl (w_X6_stateOfLetter kc a0 a1 a2 a3 a4 a5 a6 a7 a8 a9 day wind loft lost launchCount drawState letters) H → va_D A (w_X6_stateOfLetter kc a0 a1 a2 a3 a4 a5 a6 a7 a8 a9 day wind loft lost launchCount drawState letters) → va_S A s.heap H locs → lv_has ls 3 [(0, .ref a0), (1, .int x1), (2, .int y2_2)] → W p l e ({ frames := 0, cells := 0, slots := 0, locals := 0 }) s m (([.ref a0, .int x1] : List Value).toArray) below meth c H locs 0 0 Q (F0 m 2 ls []) := by
    clear hf
    intro n
    induction n with
    | zero => intro _ hf; rw [f_X6_stateOfLetter_2.eq_1] at hf; cases hf
    | succ n ih =>
      intro y2_2 hf H locs ls hP hD hS hl
      rw [f_X6_stateOfLetter_2.eq_2] at hf
      refine lv_iload_n hx hb dX6_stateOfLetter_2 rfl (lv_at hl 2 rfl) ?_
      refine lv_if_le (tgt := 28) hx hb dX6_stateOfLetter_3 (by decide) (fun hc => ?_) (fun hc => ?_)
      · have hf := o_t hc hf
        refine lv_iconst (v := 0) hx hb dX6_stateOfLetter_28 (by decide) ?_
        cases hf
        exact kR _ _ _ _ hP hD hS dX6_stateOfLetter_29
      · have hf := o_f hc hf
        refine lv_aload_n hx hb dX6_stateOfLetter_6 rfl (lv_at hl 0 rfl) ?_
        refine va_get (D := D) (ci := 6) (v := .ref a5) (C := RX6) (T := TX6) (N := 15) hx hb hts in_X6 hown hK hP 0 rfl rfl 4 (by decide) lk_28 (fun _ h9 => h9) rfl dX6_stateOfLetter_7 ?_
        refine lv_iload_n hx hb dX6_stateOfLetter_10 rfl (lv_at hl 2 rfl) ?_
        obtain ⟨hi, hf⟩ := gIx_some hf
        refine va_iald hx hb hK hP 1 1 rfl rfl hi dX6_stateOfLetter_11 ?_
        refine lv_iload_n hx hb dX6_stateOfLetter_12 rfl (lv_at hl 1 rfl) ?_
        refine lv_ishr hx hb dX6_stateOfLetter_13 ?_
        refine lv_iconst (v := 1) hx hb dX6_stateOfLetter_14 (by decide) ?_
        refine lv_iand hx hb dX6_stateOfLetter_15 ?_
        refine lv_iconst (v := 1) hx hb dX6_stateOfLetter_16 (by decide) ?_
        refine lv_icmp_ne (tgt := 22) hx hb dX6_stateOfLetter_17 (by decide) (fun hc => ?_) (fun hc => ?_)
        · have hf := o_f hc hf
          refine lv_iinc (v := (y2_2 + (-1))) (lv' := [(2, .int (y2_2 + (-1))), (0, .ref a0), (1, .int x1)]) hx hb dX6_stateOfLetter_22 hl (k := 2) rfl (by rfl) (by decide) rfl (fun ls hl => ?_)
          refine lv_goto (tgt := 2) hx hb dX6_stateOfLetter_25 (by decide) ?_
          exact ih _ hf _ _ _ hP hD hS (lv_sub hl [1, 2, 0] rfl)
        · have hf := o_t hc hf
          refine lv_iload_n hx hb dX6_stateOfLetter_20 rfl (lv_at hl 2 rfl) ?_
          cases hf
          exact kR _ _ _ _ hP hD hS dX6_stateOfLetter_21
  exact L2 N _ hf _ _ _ hP hD hS (lv_sub hl [1, 2, 0] rfl)
abbrev w_X6_readyBalloons (kc : Nat → ClassId) (a0 a1 a2 a3 a4 a5 a6 a7 a8 a9 a10 a11 a12 a13 a14 a15 a16 a17 a18 : Nat) (regions : Int32) (balloons : Int32) (letters : Int32) (loft : Int32) (start : Int32) (seed : Int32) (day : Int32) (wind : Int32) (loft2 : Int32) (lost : Int32) (launchCount : Int32) (drawState : Int64) (balloonState : Nat → Int32) : va_W := [(a0, .inr (5, [.ref a1, .ref a2, .ref a3, .ref a4, .ref a5, .ref a6, .ref a7, .ref a8, .int regions, .int balloons, .int letters, .int loft, .int start, .int seed])), (a9, .inr (6, [.ref a10, .ref a11, .ref a12, .ref a13, .ref a14, .ref a15, .int day, .int wind, .int loft2, .int lost, .ref a16, .ref a17, .ref a18, .int launchCount, .long drawState])), (a11, .inl (kc 1, 10, .inl balloonState))]
set_option maxHeartbeats 4000000 in
set_option maxRecDepth 100000 in
theorem c_X6_readyBalloons (l : Launch) (D : va_G) (kc : Nat → ClassId) (N : Nat) (a0 a1 a2 a3 a4 a5 a6 a7 a8 a9 a10 a11 a12 a13 a14 a15 a16 a17 a18 : Nat) (regions : Int32) (balloons : Int32) (letters : Int32) (loft : Int32) (start : Int32) (seed : Int32) (day : Int32) (wind : Int32) (loft2 : Int32) (lost : Int32) (launchCount : Int32) (drawState : Int64) (balloonState : Nat → Int32) (r_ : Int32) (hf : f_X6_readyBalloons N balloons balloonState = some r_) : MI l yX6_readyBalloons wsX6_readyBalloons ({ frames := 0, cells := 0, slots := 0, locals := 0 }) D kc [.ref a9, .ref a0] (w_X6_readyBalloons kc a0 a1 a2 a3 a4 a5 a6 a7 a8 a9 a10 a11 a12 a13 a14 a15 a16 a17 a18 regions balloons letters loft start seed day wind loft2 lost launchCount drawState balloonState) (w_X6_readyBalloons kc a0 a1 a2 a3 a4 a5 a6 a7 a8 a9 a10 a11 a12 a13 a14 a15 a16 a17 a18 regions balloons letters loft start seed day wind loft2 lost launchCount drawState balloonState) r_ := by
  refine gM_I (cc := cX6_readyBalloons) (maxL := 4) (by decide) rfl (Nat.le_of_ble_eq_true rfl) ?_
  intro p e s m below meth c A ls Q hx hb hml hown hts hN hK hP hD hA hl kR
  have hS : va_S A s.heap s.heap [] := va_S.rf
  have hl : lv_has ls 4 [(0, .ref a9), (1, .ref a0)] := hl
  have in_X5 : ∀ w ∈ u_ws RX5 TX5 14, w ∈ wsX6_readyBalloons := by decide +kernel
  have lk_163 := hts (.fieldLink RX6 163 "BalloonMail$Siege" "balloons" "I") (by decide +kernel)
  have in_X6 : ∀ w ∈ u_ws RX6 TX6 15, w ∈ wsX6_readyBalloons := by decide +kernel
  have lk_18 := hts (.fieldLink RX6 18 "BalloonMail$State" "balloonState" "[I") (by decide +kernel)
  unfold f_X6_readyBalloons at hf
  refine lv_iconst (v := 0) hx hb dX6_readyBalloons_0 (by decide) ?_
  refine lv_istore_n (lv' := [(2, .int 0), (0, .ref a9), (1, .ref a0)]) hx hb dX6_readyBalloons_1 rfl hl (by decide) rfl (fun ls hl => ?_)
  refine lv_iconst (v := 0) hx hb dX6_readyBalloons_2 (by decide) ?_
  refine lv_istore_n (lv' := [(3, .int 0), (2, .int 0), (0, .ref a9), (1, .ref a0)]) hx hb dX6_readyBalloons_3 rfl hl (by decide) rfl (fun ls hl => ?_)
  have L4 : ∀ (n : Nat) (y3_4 : Int32) (y2_4 : Int32) (y3_4o : Int32) (y2_4o : Int32), f_X6_readyBalloons_4 N balloons balloonState n y3_4 y2_4 = some (y3_4o, y2_4o) → (∀ (H : Heap) (locs : List Loc) (ls : Array Slot), va_P D vwCl (w_X6_readyBalloons kc a0 a1 a2 a3 a4 a5 a6 a7 a8 a9 a10 a11 a12 a13 a14 a15 a16 a17 a18 regions balloons letters loft start seed day wind loft2 lost launchCount drawState balloonState) H → va_D A (w_X6_readyBalloons kc a0 a1 a2 a3 a4 a5 a6 a7 a8 a9 a10 a11 a12 a13 a14 a15 a16 a17 a18 regions balloons letters loft start seed day wind loft2 lost launchCount drawState balloonState) → va_S A s.heap H locs → lv_has ls 4 [(0, .ref a9), (1, .ref a0), (2, .int y2_4o), (3, .int y3_4o)] → W p l e ({ frames := 0, cells := 0, slots := 0, locals := 0 }) s m (([.ref a9, .ref a0] : List Value).toArray) below meth c H locs 0 0 Q (F0 m 33 ls [])) → ∀ (H : Heap) (locs : List Loc) (ls : Array Slot), va_P D vwCl (w_X6_readyBalloons kc a0 a1 a2 a3 a4 a5 a6 a7 a8 a9 a10 a11 a12 a13 a14 a15 a16 a17 a18 regions balloons letters loft start seed day wind loft2 lost launchCount drawState balloonState) H → va_D A (w_X6_readyBalloons kc a0 a1 a2 a3 a4 a5 a6 a7 a8 a9 a10 a11 a12 a13 a14 a15 a16 a17 a18 regions balloons letters loft start seed day wind loft2 lost launchCount drawState balloonState) → va_S A s.heap H locs → lv_has ls 4 [(0, .ref a9), (1, .ref a0), (2, .int y2_4), (3, .int y3_4)] → W p l e ({ frames := 0, cells := 0, slots := 0, locals := 0 }) s m (([.ref a9, .ref a0] : List Value).toArray) below meth c H locs 0 0 Q (F0 m 4 ls []) := by
    intro n
    induction n with
    | zero => intro _ _ _ _ hf; rw [f_X6_readyBalloons_4.eq_1] at hf; cases hf
    | succ n ih =>
      intro y3_4 y2_4 y3_4o y2_4o hf hk H locs ls hP hD hS hl
      rw [f_X6_readyBalloons_4.eq_2] at hf
      refine lv_iload_n hx hb dX6_readyBalloons_4 rfl (lv_at hl 3 rfl) ?_
      refine lv_aload_n hx hb dX6_readyBalloons_5 rfl (lv_at hl 1 rfl) ?_
      refine va_get (D := D) (ci := 5) (v := .int balloons) (C := RX5) (T := TX5) (N := 14) hx hb hts in_X5 hown hK hP 0 rfl rfl 9 (by decide) lk_163 (fun _ h9 => h9) rfl dX6_readyBalloons_6 ?_
      refine lv_icmp_ge (tgt := 33) hx hb dX6_readyBalloons_9 (by decide) (fun hc => ?_) (fun hc => ?_)
      · have hf := o_t hc hf
        cases hf
        exact hk _ _ _ hP hD hS (lv_sub hl [0, 1, 2, 3] rfl)
      · have hf := o_f hc hf
        refine lv_aload_n hx hb dX6_readyBalloons_12 rfl (lv_at hl 0 rfl) ?_
        refine va_get (D := D) (ci := 6) (v := .ref a11) (C := RX6) (T := TX6) (N := 15) hx hb hts in_X6 hown hK hP 1 rfl rfl 1 (by decide) lk_18 (fun _ h9 => h9) rfl dX6_readyBalloons_13 ?_
        refine lv_iload_n hx hb dX6_readyBalloons_16 rfl (lv_at hl 3 rfl) ?_
        obtain ⟨hi, hf⟩ := gIx_some hf
        refine va_iald hx hb hK hP 2 1 rfl rfl hi dX6_readyBalloons_17 ?_
        refine lv_if_ne (tgt := 27) hx hb dX6_readyBalloons_18 (by decide) (fun hc => ?_) (fun hc => ?_)
        · have hf := o_f hc hf
          refine lv_iinc (v := (y3_4 + 1)) (lv' := [(3, .int (y3_4 + 1)), (0, .ref a9), (1, .ref a0), (2, .int y2_4)]) hx hb dX6_readyBalloons_27 hl (k := 3) rfl (by rfl) (by decide) rfl (fun ls hl => ?_)
          refine lv_goto (tgt := 4) hx hb dX6_readyBalloons_30 (by decide) ?_
          exact ih _ _ _ _ hf hk _ _ _ hP hD hS (lv_sub hl [1, 2, 3, 0] rfl)
        · have hf := o_t hc hf
          refine lv_iload_n hx hb dX6_readyBalloons_21 rfl (lv_at hl 2 rfl) ?_
          refine lv_iconst (v := 1) hx hb dX6_readyBalloons_22 (by decide) ?_
          refine lv_iload_n hx hb dX6_readyBalloons_23 rfl (lv_at hl 3 rfl) ?_
          refine lv_ishl hx hb dX6_readyBalloons_24 ?_
          refine lv_ior hx hb dX6_readyBalloons_25 ?_
          refine lv_istore_n (lv' := [(2, .int (y2_4 ||| ((1 : Int32) <<< ((y3_4 : Int32) &&& 31)))), (0, .ref a9), (1, .ref a0), (3, .int y3_4)]) hx hb dX6_readyBalloons_26 rfl hl (by decide) rfl (fun ls hl => ?_)
          refine lv_iinc (v := (y3_4 + 1)) (lv' := [(3, .int (y3_4 + 1)), (2, .int (y2_4 ||| ((1 : Int32) <<< ((y3_4 : Int32) &&& 31)))), (0, .ref a9), (1, .ref a0)]) hx hb dX6_readyBalloons_27 hl (k := 3) rfl (by rfl) (by decide) rfl (fun ls hl => ?_)
          refine lv_goto (tgt := 4) hx hb dX6_readyBalloons_30 (by decide) ?_
          exact ih _ _ _ _ hf hk _ _ _ hP hD hS (lv_sub hl [2, 3, 1, 0] rfl)
  obtain ⟨y3_4o, y2_4o, hc, hf⟩ := ob2_some hf
  refine L4 N _ _ _ _ hc (fun H locs ls hP hD hS hl => ?_) _ _ _ hP hD hS (lv_sub hl [2, 3, 1, 0] rfl)
  refine lv_iload_n hx hb dX6_readyBalloons_33 rfl (lv_at hl 2 rfl) ?_
  cases hf
  exact kR _ _ _ _ hP hD hS dX6_readyBalloons_34
abbrev w_X6_cameDownIn (kc : Nat → ClassId) (a0 a1 a2 a3 a4 a5 a6 a7 a8 a9 a10 a11 a12 a13 a14 a15 a16 a17 a18 : Nat) (regions : Int32) (balloons : Int32) (letters : Int32) (loft : Int32) (start : Int32) (seed : Int32) (day : Int32) (wind : Int32) (loft2 : Int32) (lost : Int32) (launchCount : Int32) (drawState : Int64) (balloonRegion : Nat → Int32) : va_W := [(a0, .inr (5, [.ref a1, .ref a2, .ref a3, .ref a4, .ref a5, .ref a6, .ref a7, .ref a8, .int regions, .int balloons, .int letters, .int loft, .int start, .int seed])), (a9, .inr (6, [.ref a10, .ref a11, .ref a12, .ref a13, .ref a14, .ref a15, .int day, .int wind, .int loft2, .int lost, .ref a16, .ref a17, .ref a18, .int launchCount, .long drawState])), (a12, .inl (kc 1, 10, .inl balloonRegion))]
set_option maxHeartbeats 4000000 in
set_option maxRecDepth 100000 in
theorem c_X6_cameDownIn (l : Launch) (D : va_G) (kc : Nat → ClassId) (N : Nat) (a0 a1 a2 a3 a4 a5 a6 a7 a8 a9 a10 a11 a12 a13 a14 a15 a16 a17 a18 : Nat) (regions : Int32) (balloons : Int32) (letters : Int32) (loft : Int32) (start : Int32) (seed : Int32) (day : Int32) (wind : Int32) (loft2 : Int32) (lost : Int32) (launchCount : Int32) (drawState : Int64) (balloonRegion : Nat → Int32) (x2 : Int32) (r_ : Int32) (hf : f_X6_cameDownIn N balloons balloonRegion x2 = some r_) : MI l yX6_cameDownIn wsX6_cameDownIn ({ frames := 0, cells := 0, slots := 0, locals := 0 }) D kc [.ref a9, .ref a0, .int x2] (w_X6_cameDownIn kc a0 a1 a2 a3 a4 a5 a6 a7 a8 a9 a10 a11 a12 a13 a14 a15 a16 a17 a18 regions balloons letters loft start seed day wind loft2 lost launchCount drawState balloonRegion) (w_X6_cameDownIn kc a0 a1 a2 a3 a4 a5 a6 a7 a8 a9 a10 a11 a12 a13 a14 a15 a16 a17 a18 regions balloons letters loft start seed day wind loft2 lost launchCount drawState balloonRegion) r_ := by
  refine gM_I (cc := cX6_cameDownIn) (maxL := 5) (by decide) rfl (Nat.le_of_ble_eq_true rfl) ?_
  intro p e s m below meth c A ls Q hx hb hml hown hts hN hK hP hD hA hl kR
  have hS : va_S A s.heap s.heap [] := va_S.rf
  have hl : lv_has ls 5 [(0, .ref a9), (1, .ref a0), (2, .int x2)] := hl
  have in_X5 : ∀ w ∈ u_ws RX5 TX5 14, w ∈ wsX6_cameDownIn := by decide +kernel
  have lk_163 := hts (.fieldLink RX6 163 "BalloonMail$Siege" "balloons" "I") (by decide +kernel)
  have in_X6 : ∀ w ∈ u_ws RX6 TX6 15, w ∈ wsX6_cameDownIn := by decide +kernel
  have lk_22 := hts (.fieldLink RX6 22 "BalloonMail$State" "balloonRegion" "[I") (by decide +kernel)
  unfold f_X6_cameDownIn at hf
  refine lv_iconst (v := 0) hx hb dX6_cameDownIn_0 (by decide) ?_
  refine lv_istore_n (lv' := [(3, .int 0), (0, .ref a9), (1, .ref a0), (2, .int x2)]) hx hb dX6_cameDownIn_1 rfl hl (by decide) rfl (fun ls hl => ?_)
  refine lv_iconst (v := 0) hx hb dX6_cameDownIn_2 (by decide) ?_
  refine lv_istore (lv' := [(4, .int 0), (3, .int 0), (0, .ref a9), (1, .ref a0), (2, .int x2)]) hx hb dX6_cameDownIn_3 hl (by decide) rfl (fun ls hl => ?_)
  have L5 : ∀ (n : Nat) (y4_5 : Int32) (y3_5 : Int32) (y4_5o : Int32) (y3_5o : Int32), f_X6_cameDownIn_5 N balloons balloonRegion x2 n y4_5 y3_5 = some (y4_5o, y3_5o) → (∀ (H : Heap) (locs : List Loc) (ls : Array Slot), va_P D vwCl (w_X6_cameDownIn kc a0 a1 a2 a3 a4 a5 a6 a7 a8 a9 a10 a11 a12 a13 a14 a15 a16 a17 a18 regions balloons letters loft start seed day wind loft2 lost launchCount drawState balloonRegion) H → va_D A (w_X6_cameDownIn kc a0 a1 a2 a3 a4 a5 a6 a7 a8 a9 a10 a11 a12 a13 a14 a15 a16 a17 a18 regions balloons letters loft start seed day wind loft2 lost launchCount drawState balloonRegion) → va_S A s.heap H locs → lv_has ls 5 [(0, .ref a9), (1, .ref a0), (2, .int x2), (3, .int y3_5o), (4, .int y4_5o)] → W p l e ({ frames := 0, cells := 0, slots := 0, locals := 0 }) s m (([.ref a9, .ref a0, .int x2] : List Value).toArray) below meth c H locs 0 0 Q (F0 m 34 ls [])) → ∀ (H : Heap) (locs : List Loc) (ls : Array Slot), va_P D vwCl (w_X6_cameDownIn kc a0 a1 a2 a3 a4 a5 a6 a7 a8 a9 a10 a11 a12 a13 a14 a15 a16 a17 a18 regions balloons letters loft start seed day wind loft2 lost launchCount drawState balloonRegion) H → va_D A (w_X6_cameDownIn kc a0 a1 a2 a3 a4 a5 a6 a7 a8 a9 a10 a11 a12 a13 a14 a15 a16 a17 a18 regions balloons letters loft start seed day wind loft2 lost launchCount drawState balloonRegion) → va_S A s.heap H locs → lv_has ls 5 [(0, .ref a9), (1, .ref a0), (2, .int x2), (3, .int y3_5), (4, .int y4_5)] → W p l e ({ frames := 0, cells := 0, slots := 0, locals := 0 }) s m (([.ref a9, .ref a0, .int x2] : List Value).toArray) below meth c H locs 0 0 Q (F0 m 5 ls []) := by
    intro n
    induction n with
    | zero => intro _ _ _ _ hf; rw [f_X6_cameDownIn_5.eq_1] at hf; cases hf
    | succ n ih =>
      intro y4_5 y3_5 y4_5o y3_5o hf hk H locs ls hP hD hS hl
      rw [f_X6_cameDownIn_5.eq_2] at hf
      refine lv_iload hx hb dX6_cameDownIn_5 (lv_at hl 4 rfl) ?_
      refine lv_aload_n hx hb dX6_cameDownIn_7 rfl (lv_at hl 1 rfl) ?_
      refine va_get (D := D) (ci := 5) (v := .int balloons) (C := RX5) (T := TX5) (N := 14) hx hb hts in_X5 hown hK hP 0 rfl rfl 9 (by decide) lk_163 (fun _ h9 => h9) rfl dX6_cameDownIn_8 ?_
      refine lv_icmp_ge (tgt := 34) hx hb dX6_cameDownIn_11 (by decide) (fun hc => ?_) (fun hc => ?_)
      · have hf := o_t hc hf
        cases hf
        exact hk _ _ _ hP hD hS (lv_sub hl [0, 1, 2, 3, 4] rfl)
      · have hf := o_f hc hf
        refine lv_aload_n hx hb dX6_cameDownIn_14 rfl (lv_at hl 0 rfl) ?_
        refine va_get (D := D) (ci := 6) (v := .ref a12) (C := RX6) (T := TX6) (N := 15) hx hb hts in_X6 hown hK hP 1 rfl rfl 2 (by decide) lk_22 (fun _ h9 => h9) rfl dX6_cameDownIn_15 ?_
        refine lv_iload hx hb dX6_cameDownIn_18 (lv_at hl 4 rfl) ?_
        obtain ⟨hi, hf⟩ := gIx_some hf
        refine va_iald hx hb hK hP 2 1 rfl rfl hi dX6_cameDownIn_20 ?_
        refine lv_iload_n hx hb dX6_cameDownIn_21 rfl (lv_at hl 2 rfl) ?_
        refine lv_icmp_ne (tgt := 28) hx hb dX6_cameDownIn_22 (by decide) (fun hc => ?_) (fun hc => ?_)
        · have hf := o_f hc hf
          refine lv_iinc (v := (y4_5 + 1)) (lv' := [(4, .int (y4_5 + 1)), (0, .ref a9), (1, .ref a0), (2, .int x2), (3, .int y3_5)]) hx hb dX6_cameDownIn_28 hl (k := 4) rfl (by rfl) (by decide) rfl (fun ls hl => ?_)
          refine lv_goto (tgt := 5) hx hb dX6_cameDownIn_31 (by decide) ?_
          exact ih _ _ _ _ hf hk _ _ _ hP hD hS (lv_sub hl [1, 2, 3, 4, 0] rfl)
        · have hf := o_t hc hf
          refine lv_iinc (v := (y3_5 + 1)) (lv' := [(3, .int (y3_5 + 1)), (0, .ref a9), (1, .ref a0), (2, .int x2), (4, .int y4_5)]) hx hb dX6_cameDownIn_25 hl (k := 3) rfl (by rfl) (by decide) rfl (fun ls hl => ?_)
          refine lv_iinc (v := (y4_5 + 1)) (lv' := [(4, .int (y4_5 + 1)), (3, .int (y3_5 + 1)), (0, .ref a9), (1, .ref a0), (2, .int x2)]) hx hb dX6_cameDownIn_28 hl (k := 4) rfl (by rfl) (by decide) rfl (fun ls hl => ?_)
          refine lv_goto (tgt := 5) hx hb dX6_cameDownIn_31 (by decide) ?_
          exact ih _ _ _ _ hf hk _ _ _ hP hD hS (lv_sub hl [2, 3, 4, 1, 0] rfl)
  obtain ⟨y4_5o, y3_5o, hc, hf⟩ := ob2_some hf
  refine L5 N _ _ _ _ hc (fun H locs ls hP hD hS hl => ?_) _ _ _ hP hD hS (lv_sub hl [2, 3, 4, 1, 0] rfl)
  refine lv_iload_n hx hb dX6_cameDownIn_34 rfl (lv_at hl 3 rfl) ?_
  cases hf
  exact kR _ _ _ _ hP hD hS dX6_cameDownIn_35
abbrev w_X6_homingPigeons (kc : Nat → ClassId) (a0 a1 a2 a3 a4 a5 a6 a7 a8 a9 a10 a11 a12 a13 a14 a15 a16 a17 a18 : Nat) (regions : Int32) (balloons : Int32) (letters : Int32) (loft : Int32) (start : Int32) (seed : Int32) (day : Int32) (wind : Int32) (loft2 : Int32) (lost : Int32) (launchCount : Int32) (drawState : Int64) (homing : Nat → Int32) : va_W := [(a0, .inr (5, [.ref a1, .ref a2, .ref a3, .ref a4, .ref a5, .ref a6, .ref a7, .ref a8, .int regions, .int balloons, .int letters, .int loft, .int start, .int seed])), (a9, .inr (6, [.ref a10, .ref a11, .ref a12, .ref a13, .ref a14, .ref a15, .int day, .int wind, .int loft2, .int lost, .ref a16, .ref a17, .ref a18, .int launchCount, .long drawState])), (a16, .inl (kc 1, 10, .inl homing))]
set_option maxHeartbeats 4000000 in
set_option maxRecDepth 100000 in
theorem c_X6_homingPigeons (l : Launch) (D : va_G) (kc : Nat → ClassId) (N : Nat) (a0 a1 a2 a3 a4 a5 a6 a7 a8 a9 a10 a11 a12 a13 a14 a15 a16 a17 a18 : Nat) (regions : Int32) (balloons : Int32) (letters : Int32) (loft : Int32) (start : Int32) (seed : Int32) (day : Int32) (wind : Int32) (loft2 : Int32) (lost : Int32) (launchCount : Int32) (drawState : Int64) (homing : Nat → Int32) (r_ : Int32) (hf : f_X6_homingPigeons N balloons homing = some r_) : MI l yX6_homingPigeons wsX6_homingPigeons ({ frames := 0, cells := 0, slots := 0, locals := 0 }) D kc [.ref a9, .ref a0] (w_X6_homingPigeons kc a0 a1 a2 a3 a4 a5 a6 a7 a8 a9 a10 a11 a12 a13 a14 a15 a16 a17 a18 regions balloons letters loft start seed day wind loft2 lost launchCount drawState homing) (w_X6_homingPigeons kc a0 a1 a2 a3 a4 a5 a6 a7 a8 a9 a10 a11 a12 a13 a14 a15 a16 a17 a18 regions balloons letters loft start seed day wind loft2 lost launchCount drawState homing) r_ := by
  refine gM_I (cc := cX6_homingPigeons) (maxL := 4) (by decide) rfl (Nat.le_of_ble_eq_true rfl) ?_
  intro p e s m below meth c A ls Q hx hb hml hown hts hN hK hP hD hA hl kR
  have hS : va_S A s.heap s.heap [] := va_S.rf
  have hl : lv_has ls 4 [(0, .ref a9), (1, .ref a0)] := hl
  have in_X5 : ∀ w ∈ u_ws RX5 TX5 14, w ∈ wsX6_homingPigeons := by decide +kernel
  have lk_163 := hts (.fieldLink RX6 163 "BalloonMail$Siege" "balloons" "I") (by decide +kernel)
  have in_X6 : ∀ w ∈ u_ws RX6 TX6 15, w ∈ wsX6_homingPigeons := by decide +kernel
  have lk_38 := hts (.fieldLink RX6 38 "BalloonMail$State" "homing" "[I") (by decide +kernel)
  unfold f_X6_homingPigeons at hf
  refine lv_iconst (v := 0) hx hb dX6_homingPigeons_0 (by decide) ?_
  refine lv_istore_n (lv' := [(2, .int 0), (0, .ref a9), (1, .ref a0)]) hx hb dX6_homingPigeons_1 rfl hl (by decide) rfl (fun ls hl => ?_)
  refine lv_iconst (v := 0) hx hb dX6_homingPigeons_2 (by decide) ?_
  refine lv_istore_n (lv' := [(3, .int 0), (2, .int 0), (0, .ref a9), (1, .ref a0)]) hx hb dX6_homingPigeons_3 rfl hl (by decide) rfl (fun ls hl => ?_)
  have L4 : ∀ (n : Nat) (y3_4 : Int32) (y2_4 : Int32) (y3_4o : Int32) (y2_4o : Int32), f_X6_homingPigeons_4 N balloons homing n y3_4 y2_4 = some (y3_4o, y2_4o) → (∀ (H : Heap) (locs : List Loc) (ls : Array Slot), va_P D vwCl (w_X6_homingPigeons kc a0 a1 a2 a3 a4 a5 a6 a7 a8 a9 a10 a11 a12 a13 a14 a15 a16 a17 a18 regions balloons letters loft start seed day wind loft2 lost launchCount drawState homing) H → va_D A (w_X6_homingPigeons kc a0 a1 a2 a3 a4 a5 a6 a7 a8 a9 a10 a11 a12 a13 a14 a15 a16 a17 a18 regions balloons letters loft start seed day wind loft2 lost launchCount drawState homing) → va_S A s.heap H locs → lv_has ls 4 [(0, .ref a9), (1, .ref a0), (2, .int y2_4o), (3, .int y3_4o)] → W p l e ({ frames := 0, cells := 0, slots := 0, locals := 0 }) s m (([.ref a9, .ref a0] : List Value).toArray) below meth c H locs 0 0 Q (F0 m 27 ls [])) → ∀ (H : Heap) (locs : List Loc) (ls : Array Slot), va_P D vwCl (w_X6_homingPigeons kc a0 a1 a2 a3 a4 a5 a6 a7 a8 a9 a10 a11 a12 a13 a14 a15 a16 a17 a18 regions balloons letters loft start seed day wind loft2 lost launchCount drawState homing) H → va_D A (w_X6_homingPigeons kc a0 a1 a2 a3 a4 a5 a6 a7 a8 a9 a10 a11 a12 a13 a14 a15 a16 a17 a18 regions balloons letters loft start seed day wind loft2 lost launchCount drawState homing) → va_S A s.heap H locs → lv_has ls 4 [(0, .ref a9), (1, .ref a0), (2, .int y2_4), (3, .int y3_4)] → W p l e ({ frames := 0, cells := 0, slots := 0, locals := 0 }) s m (([.ref a9, .ref a0] : List Value).toArray) below meth c H locs 0 0 Q (F0 m 4 ls []) := by
    intro n
    induction n with
    | zero => intro _ _ _ _ hf; rw [f_X6_homingPigeons_4.eq_1] at hf; cases hf
    | succ n ih =>
      intro y3_4 y2_4 y3_4o y2_4o hf hk H locs ls hP hD hS hl
      rw [f_X6_homingPigeons_4.eq_2] at hf
      refine lv_iload_n hx hb dX6_homingPigeons_4 rfl (lv_at hl 3 rfl) ?_
      refine lv_aload_n hx hb dX6_homingPigeons_5 rfl (lv_at hl 1 rfl) ?_
      refine va_get (D := D) (ci := 5) (v := .int balloons) (C := RX5) (T := TX5) (N := 14) hx hb hts in_X5 hown hK hP 0 rfl rfl 9 (by decide) lk_163 (fun _ h9 => h9) rfl dX6_homingPigeons_6 ?_
      refine lv_icmp_ge (tgt := 27) hx hb dX6_homingPigeons_9 (by decide) (fun hc => ?_) (fun hc => ?_)
      · have hf := o_t hc hf
        cases hf
        exact hk _ _ _ hP hD hS (lv_sub hl [0, 1, 2, 3] rfl)
      · have hf := o_f hc hf
        refine lv_iload_n hx hb dX6_homingPigeons_12 rfl (lv_at hl 2 rfl) ?_
        refine lv_aload_n hx hb dX6_homingPigeons_13 rfl (lv_at hl 0 rfl) ?_
        refine va_get (D := D) (ci := 6) (v := .ref a16) (C := RX6) (T := TX6) (N := 15) hx hb hts in_X6 hown hK hP 1 rfl rfl 10 (by decide) lk_38 (fun _ h9 => h9) rfl dX6_homingPigeons_14 ?_
        refine lv_iload_n hx hb dX6_homingPigeons_17 rfl (lv_at hl 3 rfl) ?_
        obtain ⟨hi, hf⟩ := gIx_some hf
        refine va_iald hx hb hK hP 2 1 rfl rfl hi dX6_homingPigeons_18 ?_
        refine lv_iadd hx hb dX6_homingPigeons_19 ?_
        refine lv_istore_n (lv' := [(2, .int (y2_4 + (homing (y3_4 : Int32).toNatClampNeg))), (0, .ref a9), (1, .ref a0), (3, .int y3_4)]) hx hb dX6_homingPigeons_20 rfl hl (by decide) rfl (fun ls hl => ?_)
        refine lv_iinc (v := (y3_4 + 1)) (lv' := [(3, .int (y3_4 + 1)), (2, .int (y2_4 + (homing (y3_4 : Int32).toNatClampNeg))), (0, .ref a9), (1, .ref a0)]) hx hb dX6_homingPigeons_21 hl (k := 3) rfl (by rfl) (by decide) rfl (fun ls hl => ?_)
        refine lv_goto (tgt := 4) hx hb dX6_homingPigeons_24 (by decide) ?_
        exact ih _ _ _ _ hf hk _ _ _ hP hD hS (lv_sub hl [2, 3, 1, 0] rfl)
  obtain ⟨y3_4o, y2_4o, hc, hf⟩ := ob2_some hf
  refine L4 N _ _ _ _ hc (fun H locs ls hP hD hS hl => ?_) _ _ _ hP hD hS (lv_sub hl [2, 3, 1, 0] rfl)
  refine lv_iload_n hx hb dX6_homingPigeons_27 rfl (lv_at hl 2 rfl) ?_
  cases hf
  exact kR _ _ _ _ hP hD hS dX6_homingPigeons_28
abbrev w_X6_earliestReturn (kc : Nat → ClassId) (a0 a1 a2 a3 a4 a5 a6 a7 a8 a9 a10 a11 a12 a13 a14 a15 a16 a17 a18 : Nat) (regions : Int32) (balloons : Int32) (letters : Int32) (loft : Int32) (start : Int32) (seed : Int32) (day : Int32) (wind : Int32) (loft2 : Int32) (lost : Int32) (launchCount : Int32) (drawState : Int64) (due : Nat → Int32) (homing : Nat → Int32) : va_W := [(a0, .inr (5, [.ref a1, .ref a2, .ref a3, .ref a4, .ref a5, .ref a6, .ref a7, .ref a8, .int regions, .int balloons, .int letters, .int loft, .int start, .int seed])), (a9, .inr (6, [.ref a10, .ref a11, .ref a12, .ref a13, .ref a14, .ref a15, .int day, .int wind, .int loft2, .int lost, .ref a16, .ref a17, .ref a18, .int launchCount, .long drawState])), (a17, .inl (kc 1, 10, .inl due)), (a16, .inl (kc 1, 10, .inl homing))]
set_option maxHeartbeats 4000000 in
set_option maxRecDepth 100000 in
theorem c_X6_earliestReturn (l : Launch) (D : va_G) (kc : Nat → ClassId) (N : Nat) (a0 a1 a2 a3 a4 a5 a6 a7 a8 a9 a10 a11 a12 a13 a14 a15 a16 a17 a18 : Nat) (regions : Int32) (balloons : Int32) (letters : Int32) (loft : Int32) (start : Int32) (seed : Int32) (day : Int32) (wind : Int32) (loft2 : Int32) (lost : Int32) (launchCount : Int32) (drawState : Int64) (due : Nat → Int32) (homing : Nat → Int32) (r_ : Int32) (hf : f_X6_earliestReturn N balloons due homing = some r_) : MI l yX6_earliestReturn wsX6_earliestReturn ({ frames := 0, cells := 0, slots := 0, locals := 0 }) D kc [.ref a9, .ref a0] (w_X6_earliestReturn kc a0 a1 a2 a3 a4 a5 a6 a7 a8 a9 a10 a11 a12 a13 a14 a15 a16 a17 a18 regions balloons letters loft start seed day wind loft2 lost launchCount drawState due homing) (w_X6_earliestReturn kc a0 a1 a2 a3 a4 a5 a6 a7 a8 a9 a10 a11 a12 a13 a14 a15 a16 a17 a18 regions balloons letters loft start seed day wind loft2 lost launchCount drawState due homing) r_ := by
  refine gM_I (cc := cX6_earliestReturn) (maxL := 5) (by decide) rfl (Nat.le_of_ble_eq_true rfl) ?_
  intro p e s m below meth c A ls Q hx hb hml hown hts hN hK hP hD hA hl kR
  have hS : va_S A s.heap s.heap [] := va_S.rf
  have hl : lv_has ls 5 [(0, .ref a9), (1, .ref a0)] := hl
  have in_X5 : ∀ w ∈ u_ws RX5 TX5 14, w ∈ wsX6_earliestReturn := by decide +kernel
  have lk_163 := hts (.fieldLink RX6 163 "BalloonMail$Siege" "balloons" "I") (by decide +kernel)
  have in_X6 : ∀ w ∈ u_ws RX6 TX6 15, w ∈ wsX6_earliestReturn := by decide +kernel
  have lk_38 := hts (.fieldLink RX6 38 "BalloonMail$State" "homing" "[I") (by decide +kernel)
  have lk_41 := hts (.fieldLink RX6 41 "BalloonMail$State" "due" "[I") (by decide +kernel)
  unfold f_X6_earliestReturn at hf
  refine lv_bipush (v := (-2)) hx hb dX6_earliestReturn_0 (by decide) ?_
  refine lv_istore_n (lv' := [(2, .int (-2)), (0, .ref a9), (1, .ref a0)]) hx hb dX6_earliestReturn_2 rfl hl (by decide) rfl (fun ls hl => ?_)
  refine lv_iconst (v := 0) hx hb dX6_earliestReturn_3 (by decide) ?_
  refine lv_istore_n (lv' := [(3, .int 0), (2, .int (-2)), (0, .ref a9), (1, .ref a0)]) hx hb dX6_earliestReturn_4 rfl hl (by decide) rfl (fun ls hl => ?_)
  have L5 : ∀ (n : Nat) (y3_5 : Int32) (y2_5 : Int32) (y3_5o : Int32) (y2_5o : Int32), f_X6_earliestReturn_5 N balloons due homing n y3_5 y2_5 = some (y3_5o, y2_5o) → (∀ (H : Heap) (locs : List Loc) (ls : Array Slot), va_P D vwCl (w_X6_earliestReturn kc a0 a1 a2 a3 a4 a5 a6 a7 a8 a9 a10 a11 a12 a13 a14 a15 a16 a17 a18 regions balloons letters loft start seed day wind loft2 lost launchCount drawState due homing) H → va_D A (w_X6_earliestReturn kc a0 a1 a2 a3 a4 a5 a6 a7 a8 a9 a10 a11 a12 a13 a14 a15 a16 a17 a18 regions balloons letters loft start seed day wind loft2 lost launchCount drawState due homing) → va_S A s.heap H locs → lv_has ls 5 [(0, .ref a9), (1, .ref a0), (2, .int y2_5o), (3, .int y3_5o)] → W p l e ({ frames := 0, cells := 0, slots := 0, locals := 0 }) s m (([.ref a9, .ref a0] : List Value).toArray) below meth c H locs 0 0 Q (F0 m 63 ls [])) → ∀ (H : Heap) (locs : List Loc) (ls : Array Slot), va_P D vwCl (w_X6_earliestReturn kc a0 a1 a2 a3 a4 a5 a6 a7 a8 a9 a10 a11 a12 a13 a14 a15 a16 a17 a18 regions balloons letters loft start seed day wind loft2 lost launchCount drawState due homing) H → va_D A (w_X6_earliestReturn kc a0 a1 a2 a3 a4 a5 a6 a7 a8 a9 a10 a11 a12 a13 a14 a15 a16 a17 a18 regions balloons letters loft start seed day wind loft2 lost launchCount drawState due homing) → va_S A s.heap H locs → lv_has ls 5 [(0, .ref a9), (1, .ref a0), (2, .int y2_5), (3, .int y3_5)] → W p l e ({ frames := 0, cells := 0, slots := 0, locals := 0 }) s m (([.ref a9, .ref a0] : List Value).toArray) below meth c H locs 0 0 Q (F0 m 5 ls []) := by
    intro n
    induction n with
    | zero => intro _ _ _ _ hf; rw [f_X6_earliestReturn_5.eq_1] at hf; cases hf
    | succ n ih =>
      intro y3_5 y2_5 y3_5o y2_5o hf hk H locs ls hP hD hS hl
      rw [f_X6_earliestReturn_5.eq_2] at hf
      refine lv_iload_n hx hb dX6_earliestReturn_5 rfl (lv_at hl 3 rfl) ?_
      refine lv_aload_n hx hb dX6_earliestReturn_6 rfl (lv_at hl 1 rfl) ?_
      refine va_get (D := D) (ci := 5) (v := .int balloons) (C := RX5) (T := TX5) (N := 14) hx hb hts in_X5 hown hK hP 0 rfl rfl 9 (by decide) lk_163 (fun _ h9 => h9) rfl dX6_earliestReturn_7 ?_
      refine lv_icmp_ge (tgt := 63) hx hb dX6_earliestReturn_10 (by decide) (fun hc => ?_) (fun hc => ?_)
      · have hf := o_t hc hf
        cases hf
        exact hk _ _ _ hP hD hS (lv_sub hl [0, 1, 2, 3] rfl)
      · have hf := o_f hc hf
        refine lv_iload_n hx hb dX6_earliestReturn_13 rfl (lv_at hl 2 rfl) ?_
        refine lv_bipush (v := (-2)) hx hb dX6_earliestReturn_14 (by decide) ?_
        refine lv_icmp_eq (tgt := 29) hx hb dX6_earliestReturn_16 (by decide) (fun hc => ?_) (fun hc => ?_)
        · have hf := o_t hc hf
          refine lv_iconst (v := 1) hx hb dX6_earliestReturn_29 (by decide) ?_
          refine lv_goto (tgt := 34) hx hb dX6_earliestReturn_30 (by decide) ?_
          refine lv_istore (lv' := [(4, .int 1), (0, .ref a9), (1, .ref a0), (2, .int y2_5), (3, .int y3_5)]) hx hb dX6_earliestReturn_34 hl (by decide) rfl (fun ls hl => ?_)
          refine lv_aload_n hx hb dX6_earliestReturn_36 rfl (lv_at hl 1 rfl) ?_
          refine va_get (D := D) (ci := 6) (v := .ref a16) (C := RX6) (T := TX6) (N := 15) hx hb hts in_X6 hown hK hP 1 rfl rfl 10 (by decide) lk_38 (fun _ h9 => h9) rfl dX6_earliestReturn_37 ?_
          refine lv_iload_n hx hb dX6_earliestReturn_40 rfl (lv_at hl 4 rfl) ?_
          obtain ⟨hi, hf⟩ := gIx_some hf
          refine va_iald hx hb hK hP 3 1 rfl rfl hi dX6_earliestReturn_41 ?_
          refine lv_if_le (tgt := 57) hx hb dX6_earliestReturn_42 (by decide) (fun hc => ?_) (fun hc => ?_)
          · have hf := o_t hc hf
            refine lv_iinc (v := (y3_5 + 1)) (lv' := [(3, .int (y3_5 + 1)), (4, .int 1), (0, .ref a9), (1, .ref a0), (2, .int y2_5)]) hx hb dX6_earliestReturn_57 hl (k := 4) rfl (by rfl) (by decide) rfl (fun ls hl => ?_)
            refine lv_goto (tgt := 5) hx hb dX6_earliestReturn_60 (by decide) ?_
            exact ih _ _ _ _ hf hk _ _ _ hP hD hS (lv_sub hl [2, 3, 4, 0] rfl)
          · have hf := o_f hc hf
            refine lv_iload hx hb dX6_earliestReturn_45 (lv_at hl 0 rfl) ?_
            refine lv_if_eq (tgt := 57) hx hb dX6_earliestReturn_47 (by decide) (fun hc => ?_) (fun hc => ?_)
            · have hf := o_t hc hf
              refine lv_iinc (v := (y3_5 + 1)) (lv' := [(3, .int (y3_5 + 1)), (4, .int 1), (0, .ref a9), (1, .ref a0), (2, .int y2_5)]) hx hb dX6_earliestReturn_57 hl (k := 4) rfl (by rfl) (by decide) rfl (fun ls hl => ?_)
              refine lv_goto (tgt := 5) hx hb dX6_earliestReturn_60 (by decide) ?_
              exact ih _ _ _ _ hf hk _ _ _ hP hD hS (lv_sub hl [2, 3, 4, 0] rfl)
            · have hf := o_f hc hf
              refine lv_aload_n hx hb dX6_earliestReturn_50 rfl (lv_at hl 1 rfl) ?_
              refine va_get (D := D) (ci := 6) (v := .ref a17) (C := RX6) (T := TX6) (N := 15) hx hb hts in_X6 hown hK hP 1 rfl rfl 11 (by decide) lk_41 (fun _ h9 => h9) rfl dX6_earliestReturn_51 ?_
              refine lv_iload_n hx hb dX6_earliestReturn_54 rfl (lv_at hl 4 rfl) ?_
              obtain ⟨hi, hf⟩ := gIx_some hf
              refine va_iald hx hb hK hP 2 1 rfl rfl hi dX6_earliestReturn_55 ?_
              refine lv_istore_n (lv' := [(2, .int (due (y3_5 : Int32).toNatClampNeg)), (4, .int 1), (0, .ref a9), (1, .ref a0), (3, .int y3_5)]) hx hb dX6_earliestReturn_56 rfl hl (by decide) rfl (fun ls hl => ?_)
              refine lv_iinc (v := (y3_5 + 1)) (lv' := [(3, .int (y3_5 + 1)), (2, .int (due (y3_5 : Int32).toNatClampNeg)), (4, .int 1), (0, .ref a9), (1, .ref a0)]) hx hb dX6_earliestReturn_57 hl (k := 4) rfl (by rfl) (by decide) rfl (fun ls hl => ?_)
              refine lv_goto (tgt := 5) hx hb dX6_earliestReturn_60 (by decide) ?_
              exact ih _ _ _ _ hf hk _ _ _ hP hD hS (lv_sub hl [3, 4, 1, 0] rfl)
        · have hf := o_f hc hf
          refine lv_aload_n hx hb dX6_earliestReturn_19 rfl (lv_at hl 0 rfl) ?_
          refine va_get (D := D) (ci := 6) (v := .ref a17) (C := RX6) (T := TX6) (N := 15) hx hb hts in_X6 hown hK hP 1 rfl rfl 11 (by decide) lk_41 (fun _ h9 => h9) rfl dX6_earliestReturn_20 ?_
          refine lv_iload_n hx hb dX6_earliestReturn_23 rfl (lv_at hl 3 rfl) ?_
          obtain ⟨hi, hf⟩ := gIx_some hf
          refine va_iald hx hb hK hP 2 1 rfl rfl hi dX6_earliestReturn_24 ?_
          refine lv_iload_n hx hb dX6_earliestReturn_25 rfl (lv_at hl 2 rfl) ?_
          refine lv_icmp_ge (tgt := 33) hx hb dX6_earliestReturn_26 (by decide) (fun hc => ?_) (fun hc => ?_)
          · have hf := o_t hc hf
            refine lv_iconst (v := 0) hx hb dX6_earliestReturn_33 (by decide) ?_
            refine lv_istore (lv' := [(4, .int 0), (0, .ref a9), (1, .ref a0), (2, .int y2_5), (3, .int y3_5)]) hx hb dX6_earliestReturn_34 hl (by decide) rfl (fun ls hl => ?_)
            refine lv_aload_n hx hb dX6_earliestReturn_36 rfl (lv_at hl 1 rfl) ?_
            refine va_get (D := D) (ci := 6) (v := .ref a16) (C := RX6) (T := TX6) (N := 15) hx hb hts in_X6 hown hK hP 1 rfl rfl 10 (by decide) lk_38 (fun _ h9 => h9) rfl dX6_earliestReturn_37 ?_
            refine lv_iload_n hx hb dX6_earliestReturn_40 rfl (lv_at hl 4 rfl) ?_
            obtain ⟨hi, hf⟩ := gIx_some hf
            refine va_iald hx hb hK hP 3 1 rfl rfl hi dX6_earliestReturn_41 ?_
            refine lv_if_le (tgt := 57) hx hb dX6_earliestReturn_42 (by decide) (fun hc => ?_) (fun hc => ?_)
            · have hf := o_t hc hf
              refine lv_iinc (v := (y3_5 + 1)) (lv' := [(3, .int (y3_5 + 1)), (4, .int 0), (0, .ref a9), (1, .ref a0), (2, .int y2_5)]) hx hb dX6_earliestReturn_57 hl (k := 4) rfl (by rfl) (by decide) rfl (fun ls hl => ?_)
              refine lv_goto (tgt := 5) hx hb dX6_earliestReturn_60 (by decide) ?_
              exact ih _ _ _ _ hf hk _ _ _ hP hD hS (lv_sub hl [2, 3, 4, 0] rfl)
            · have hf := o_f hc hf
              refine lv_iload hx hb dX6_earliestReturn_45 (lv_at hl 0 rfl) ?_
              refine lv_if_eq (tgt := 57) hx hb dX6_earliestReturn_47 (by decide) (fun hc => ?_) (fun hc => ?_)
              · have hf := o_t hc hf
                refine lv_iinc (v := (y3_5 + 1)) (lv' := [(3, .int (y3_5 + 1)), (4, .int 0), (0, .ref a9), (1, .ref a0), (2, .int y2_5)]) hx hb dX6_earliestReturn_57 hl (k := 4) rfl (by rfl) (by decide) rfl (fun ls hl => ?_)
                refine lv_goto (tgt := 5) hx hb dX6_earliestReturn_60 (by decide) ?_
                exact ih _ _ _ _ hf hk _ _ _ hP hD hS (lv_sub hl [2, 3, 4, 0] rfl)
              · have hf := o_f hc hf
                refine lv_aload_n hx hb dX6_earliestReturn_50 rfl (lv_at hl 1 rfl) ?_
                refine va_get (D := D) (ci := 6) (v := .ref a17) (C := RX6) (T := TX6) (N := 15) hx hb hts in_X6 hown hK hP 1 rfl rfl 11 (by decide) lk_41 (fun _ h9 => h9) rfl dX6_earliestReturn_51 ?_
                refine lv_iload_n hx hb dX6_earliestReturn_54 rfl (lv_at hl 4 rfl) ?_
                obtain ⟨hi, hf⟩ := gIx_some hf
                refine va_iald hx hb hK hP 2 1 rfl rfl hi dX6_earliestReturn_55 ?_
                refine lv_istore_n (lv' := [(2, .int (due (y3_5 : Int32).toNatClampNeg)), (4, .int 0), (0, .ref a9), (1, .ref a0), (3, .int y3_5)]) hx hb dX6_earliestReturn_56 rfl hl (by decide) rfl (fun ls hl => ?_)
                refine lv_iinc (v := (y3_5 + 1)) (lv' := [(3, .int (y3_5 + 1)), (2, .int (due (y3_5 : Int32).toNatClampNeg)), (4, .int 0), (0, .ref a9), (1, .ref a0)]) hx hb dX6_earliestReturn_57 hl (k := 4) rfl (by rfl) (by decide) rfl (fun ls hl => ?_)
                refine lv_goto (tgt := 5) hx hb dX6_earliestReturn_60 (by decide) ?_
                exact ih _ _ _ _ hf hk _ _ _ hP hD hS (lv_sub hl [3, 4, 1, 0] rfl)
          · have hf := o_f hc hf
            refine lv_iconst (v := 1) hx hb dX6_earliestReturn_29 (by decide) ?_
            refine lv_goto (tgt := 34) hx hb dX6_earliestReturn_30 (by decide) ?_
            refine lv_istore (lv' := [(4, .int 1), (0, .ref a9), (1, .ref a0), (2, .int y2_5), (3, .int y3_5)]) hx hb dX6_earliestReturn_34 hl (by decide) rfl (fun ls hl => ?_)
            refine lv_aload_n hx hb dX6_earliestReturn_36 rfl (lv_at hl 1 rfl) ?_
            refine va_get (D := D) (ci := 6) (v := .ref a16) (C := RX6) (T := TX6) (N := 15) hx hb hts in_X6 hown hK hP 1 rfl rfl 10 (by decide) lk_38 (fun _ h9 => h9) rfl dX6_earliestReturn_37 ?_
            refine lv_iload_n hx hb dX6_earliestReturn_40 rfl (lv_at hl 4 rfl) ?_
            obtain ⟨hi, hf⟩ := gIx_some hf
            refine va_iald hx hb hK hP 3 1 rfl rfl hi dX6_earliestReturn_41 ?_
            refine lv_if_le (tgt := 57) hx hb dX6_earliestReturn_42 (by decide) (fun hc => ?_) (fun hc => ?_)
            · have hf := o_t hc hf
              refine lv_iinc (v := (y3_5 + 1)) (lv' := [(3, .int (y3_5 + 1)), (4, .int 1), (0, .ref a9), (1, .ref a0), (2, .int y2_5)]) hx hb dX6_earliestReturn_57 hl (k := 4) rfl (by rfl) (by decide) rfl (fun ls hl => ?_)
              refine lv_goto (tgt := 5) hx hb dX6_earliestReturn_60 (by decide) ?_
              exact ih _ _ _ _ hf hk _ _ _ hP hD hS (lv_sub hl [2, 3, 4, 0] rfl)
            · have hf := o_f hc hf
              refine lv_iload hx hb dX6_earliestReturn_45 (lv_at hl 0 rfl) ?_
              refine lv_if_eq (tgt := 57) hx hb dX6_earliestReturn_47 (by decide) (fun hc => ?_) (fun hc => ?_)
              · have hf := o_t hc hf
                refine lv_iinc (v := (y3_5 + 1)) (lv' := [(3, .int (y3_5 + 1)), (4, .int 1), (0, .ref a9), (1, .ref a0), (2, .int y2_5)]) hx hb dX6_earliestReturn_57 hl (k := 4) rfl (by rfl) (by decide) rfl (fun ls hl => ?_)
                refine lv_goto (tgt := 5) hx hb dX6_earliestReturn_60 (by decide) ?_
                exact ih _ _ _ _ hf hk _ _ _ hP hD hS (lv_sub hl [2, 3, 4, 0] rfl)
              · have hf := o_f hc hf
                refine lv_aload_n hx hb dX6_earliestReturn_50 rfl (lv_at hl 1 rfl) ?_
                refine va_get (D := D) (ci := 6) (v := .ref a17) (C := RX6) (T := TX6) (N := 15) hx hb hts in_X6 hown hK hP 1 rfl rfl 11 (by decide) lk_41 (fun _ h9 => h9) rfl dX6_earliestReturn_51 ?_
                refine lv_iload_n hx hb dX6_earliestReturn_54 rfl (lv_at hl 4 rfl) ?_
                obtain ⟨hi, hf⟩ := gIx_some hf
                refine va_iald hx hb hK hP 2 1 rfl rfl hi dX6_earliestReturn_55 ?_
                refine lv_istore_n (lv' := [(2, .int (due (y3_5 : Int32).toNatClampNeg)), (4, .int 1), (0, .ref a9), (1, .ref a0), (3, .int y3_5)]) hx hb dX6_earliestReturn_56 rfl hl (by decide) rfl (fun ls hl => ?_)
                refine lv_iinc (v := (y3_5 + 1)) (lv' := [(3, .int (y3_5 + 1)), (2, .int (due (y3_5 : Int32).toNatClampNeg)), (4, .int 1), (0, .ref a9), (1, .ref a0)]) hx hb dX6_earliestReturn_57 hl (k := 4) rfl (by rfl) (by decide) rfl (fun ls hl => ?_)
                refine lv_goto (tgt := 5) hx hb dX6_earliestReturn_60 (by decide) ?_
                exact ih _ _ _ _ hf hk _ _ _ hP hD hS (lv_sub hl [3, 4, 1, 0] rfl)
  obtain ⟨y3_5o, y2_5o, hc, hf⟩ := ob2_some hf
  refine L5 N _ _ _ _ hc (fun H locs ls hP hD hS hl => ?_) _ _ _ hP hD hS (lv_sub hl [2, 3, 1, 0] rfl)
  refine lv_iload_n hx hb dX6_earliestReturn_63 rfl (lv_at hl 2 rfl) ?_
  cases hf
  exact kR _ _ _ _ hP hD hS dX6_earliestReturn_64
