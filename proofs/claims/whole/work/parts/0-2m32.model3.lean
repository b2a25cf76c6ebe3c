abbrev w_X9_copies_al (kc : Nat → ClassId) (a0 : Nat) (n_y0 : Nat) (y0 : Nat → Int32) : va_W := [(a0, .inl (kc 1, n_y0, .inl y0))]
set_option maxHeartbeats 4000000 in
set_option maxRecDepth 100000 in
theorem c_X9_copies_al (l : Launch) (D : va_G) (kc : Nat → ClassId) (N : Nat) (a0 : Nat) (n_y0 : Nat) (y0 : Nat → Int32) (x1 : Int32) (x3 : Int32) (x4 : Int32) (y0' : Nat → Int32) (hf : f_X9_copies_al N n_y0 y0 x1 x3 x4 = some y0') : MV l yX9_copies wsX9_copies ({ frames := 0, cells := 0, slots := 0, locals := 0 }) D kc [.ref a0, .int x1, .ref a0, .int x3, .int x4] (w_X9_copies_al kc a0 n_y0 y0) (w_X9_copies_al kc a0 n_y0 y0') := by
  refine gM_V (cc := cX9_copies) (maxL := 6) (by decide) rfl (Nat.le_of_ble_eq_true rfl) ?_
  intro p e s m below meth c A ls Q hx hb hml hown hts hN hK hP hD hA hl kR
  have hS : va_S A s.heap s.heap [] := va_S.rf
  have hl : lv_has ls 6 [(0, .ref a0), (1, .int x1), (2, .ref a0), (3, .int x3), (4, .int x4)] := hl
  unfold f_X9_copies_al at hf
  refine lv_iconst (v := 0) hx hb dX9_copies_0 (by decide) ?_
  refine lv_istore (lv' := [(5, .int 0), (0, .ref a0), (1, .int x1), (2, .ref a0), (3, .int x3), (4, .int x4)]) hx hb dX9_copies_1 hl (by decide) rfl (fun ls hl => ?_)
  have L3 : ∀ (n : Nat) (y5_3 : Int32) (y0_3 : Nat → Int32) (y5_3o : Int32) (y0_3o : Nat → Int32), f_X9_copies_al_3 N x1 x3 x4 n_y0 n y5_3 y0_3 = some (y5_3o, y0_3o) → (∀ (H : Heap) (locs : List Loc) (ls : Array Slot), va_P D vwCl (w_X9_copies_al kc a0 n_y0 y0_3o) H → va_D A (w_X9_copies_al kc a0 n_y0 y0_3o) → va_S A s.heap H locs → lv_has ls 6 [(0, .ref a0), (1, .int x1), (2, .ref a0), (3, .int x3), (4, .int x4), (5, .int y5_3o)] → W p l e ({ frames := 0, cells := 0, slots := 0, locals := 0 }) s m (([.ref a0, .int x1, .ref a0, .int x3, .int x4] : List Value).toArray) below meth c H locs 0 0 Q (F0 m 28 ls [])) → ∀ (H : Heap) (locs : List Loc) (ls : Array Slot), va_P D vwCl (w_X9_copies_al kc a0 n_y0 y0_3) H → va_D A (w_X9_copies_al kc a0 n_y0 y0_3) → va_S A s.heap H locs → lv_has ls 6 [(0, .ref a0), (1, .int x1), (2, .ref a0), (3, .int x3), (4, .int x4), (5, .int y5_3)] → W p l e ({ frames := 0, cells := 0, slots := 0, locals := 0 }) s m (([.ref a0, .int x1, .ref a0, .int x3, .int x4] : List Value).toArray) below meth c H locs 0 0 Q (F0 m 3 ls []) := by
    intro n
    induction n with
    | zero => intro _ _ _ _ hf; rw [f_X9_copies_al_3.eq_1] at hf; cases hf
    | succ n ih =>
      intro y5_3 y0_3 y5_3o y0_3o hf hk H locs ls hP hD hS hl
      rw [f_X9_copies_al_3.eq_2] at hf
      refine lv_iload hx hb dX9_copies_3 (lv_at hl 5 rfl) ?_
      refine lv_iload hx hb dX9_copies_5 (lv_at hl 4 rfl) ?_
      refine lv_icmp_ge (tgt := 28) hx hb dX9_copies_7 (by decide) (fun hc => ?_) (fun hc => ?_)
      · have hf := o_t hc hf
        cases hf
        exact hk _ _ _ hP hD hS (lv_sub hl [0, 1, 2, 3, 4, 5] rfl)
      · have hf := o_f hc hf
        refine lv_aload_n hx hb dX9_copies_10 rfl (lv_at hl 2 rfl) ?_
        refine lv_iload_n hx hb dX9_copies_11 rfl (lv_at hl 3 rfl) ?_
        refine lv_iload hx hb dX9_copies_12 (lv_at hl 5 rfl) ?_
        refine lv_iadd hx hb dX9_copies_14 ?_
        refine lv_aload_n hx hb dX9_copies_15 rfl (lv_at hl 0 rfl) ?_
        refine lv_iload_n hx hb dX9_copies_16 rfl (lv_at hl 1 rfl) ?_
        refine lv_iload hx hb dX9_copies_17 (lv_at hl 5 rfl) ?_
        refine lv_iadd hx hb dX9_copies_19 ?_
        obtain ⟨hi, hf⟩ := gIx_some hf
        refine va_iald hx hb hK hP 0 1 rfl rfl hi dX9_copies_20 ?_
        obtain ⟨hi, hf⟩ := gIx_some hf
        refine va_iast hx hb hK hP hD hS 0 1 rfl rfl hi dX9_copies_21 (fun H locs hP hD hS => ?_)
        have hP : va_P D vwCl (w_X9_copies_al kc a0 n_y0 (upd y0_3 ((x3 + y5_3) : Int32).toNatClampNeg (y0_3 ((x1 + y5_3) : Int32).toNatClampNeg))) H := hP
        have hD : va_D A (w_X9_copies_al kc a0 n_y0 (upd y0_3 ((x3 + y5_3) : Int32).toNatClampNeg (y0_3 ((x1 + y5_3) : Int32).toNatClampNeg))) := hD
        refine lv_iinc (v := (y5_3 + 1)) (lv' := [(5, .int (y5_3 + 1)), (0, .ref a0), (1, .int x1), (2, .ref a0), (3, .int x3), (4, .int x4)]) hx hb dX9_copies_22 hl (k := 5) rfl (by rfl) (by decide) rfl (fun ls hl => ?_)
        refine lv_goto (tgt := 3) hx hb dX9_copies_25 (by decide) ?_
        exact ih _ _ _ _ hf hk _ _ _ hP hD hS (lv_sub hl [1, 2, 3, 4, 5, 0] rfl)
  obtain ⟨y5_3o, y0_3o, hc, hf⟩ := ob2_some hf
  refine L3 N _ _ _ _ hc (fun H locs ls hP hD hS hl => ?_) _ _ _ hP hD hS (lv_sub hl [1, 2, 3, 4, 5, 0] rfl)
  cases hf
  exact kR _ _ _ _ hP hD hS dX9_copies_28
abbrev w_X9_copies (kc : Nat → ClassId) (a0 a1 : Nat) (n_y0 n_y2 : Nat) (y0 : Nat → Int32) (y2 : Nat → Int32) : va_W := [(a0, .inl (kc 1, n_y0, .inl y0)), (a1, .inl (kc 1, n_y2, .inl y2))]
set_option maxHeartbeats 4000000 in
set_option maxRecDepth 100000 in
theorem c_X9_copies (l : Launch) (D : va_G) (kc : Nat → ClassId) (N : Nat) (a0 a1 : Nat) (n_y0 n_y2 : Nat) (y0 : Nat → Int32) (y2 : Nat → Int32) (x1 : Int32) (x3 : Int32) (x4 : Int32) (y2' : Nat → Int32) (hf : f_X9_copies N n_y0 n_y2 y0 y2 x1 x3 x4 = some y2') : MV l yX9_copies wsX9_copies ({ frames := 0, cells := 0, slots := 0, locals := 0 }) D kc [.ref a0, .int x1, .ref a1, .int x3, .int x4] (w_X9_copies kc a0 a1 n_y0 n_y2 y0 y2) (w_X9_copies kc a0 a1 n_y0 n_y2 y0 y2') := by
  refine gM_V (cc := cX9_copies) (maxL := 6) (by decide) rfl (Nat.le_of_ble_eq_true rfl) ?_
  intro p e s m below meth c A ls Q hx hb hml hown hts hN hK hP hD hA hl kR
  have hS : va_S A s.heap s.heap [] := va_S.rf
  have hl : lv_has ls 6 [(0, .ref a0), (1, .int x1), (2, .ref a1), (3, .int x3), (4, .int x4)] := hl
  unfold f_X9_copies at hf
  refine lv_iconst (v := 0) hx hb dX9_copies_0 (by decide) ?_
  refine lv_istore (lv' := [(5, .int 0), (0, .ref a0), (1, .int x1), (2, .ref a1), (3, .int x3), (4, .int x4)]) hx hb dX9_copies_1 hl (by decide) rfl (fun ls hl => ?_)
  have L3 : ∀ (n : Nat) (y5_3 : Int32) (y2_3 : Nat → Int32) (y5_3o : Int32) (y2_3o : Nat → Int32), f_X9_copies_3 N y0 x1 x3 x4 n_y0 n_y2 n y5_3 y2_3 = some (y5_3o, y2_3o) → (∀ (H : Heap) (locs : List Loc) (ls : Array Slot), va_P D vwCl (w_X9_copies kc a0 a1 n_y0 n_y2 y0 y2_3o) H → va_D A (w_X9_copies kc a0 a1 n_y0 n_y2 y0 y2_3o) → va_S A s.heap H locs → lv_has ls 6 [(0, .ref a0), (1, .int x1), (2, .ref a1), (3, .int x3), (4, .int x4), (5, .int y5_3o)] → W p l e ({ frames := 0, cells := 0, slots := 0, locals := 0 }) s m (([.ref a0, .int x1, .ref a1, .int x3, .int x4] : List Value).toArray) below meth c H locs 0 0 Q (F0 m 28 ls [])) → ∀ (H : Heap) (locs : List Loc) (ls : Array Slot), va_P D vwCl (w_X9_copies kc a0 a1 n_y0 n_y2 y0 y2_3) H → va_D A (w_X9_copies kc a0 a1 n_y0 n_y2 y0 y2_3) → va_S A s.heap H locs → lv_has ls 6 [(0, .ref a0), (1, .int x1), (2, .ref a1), (3, .int x3), (4, .int x4), (5, .int y5_3)] → W p l e ({ frames := 0, cells := 0, slots := 0, locals := 0 }) s m (([.ref a0, .int x1, .ref a1, .int x3, .int x4] : List Value).toArray) below meth c H locs 0 0 Q (F0 m 3 ls []) := by
    intro n
    induction n with
    | zero => intro _ _ _ _ hf; rw [f_X9_copies_3.eq_1] at hf; cases hf
    | succ n ih =>
      intro y5_3 y2_3 y5_3o y2_3o hf hk H locs ls hP hD hS hl
      rw [f_X9_copies_3.eq_2] at hf
      refine lv_iload hx hb dX9_copies_3 (lv_at hl 5 rfl) ?_
      refine lv_iload hx hb dX9_copies_5 (lv_at hl 4 rfl) ?_
      refine lv_icmp_ge (tgt := 28) hx hb dX9_copies_7 (by decide) (fun hc => ?_) (fun hc => ?_)
      · have hf := o_t hc hf
        cases hf
        exact hk _ _ _ hP hD hS (lv_sub hl [0, 1, 2, 3, 4, 5] rfl)
      · have hf := o_f hc hf
        refine lv_aload_n hx hb dX9_copies_10 rfl (lv_at hl 2 rfl) ?_
        refine lv_iload_n hx hb dX9_copies_11 rfl (lv_at hl 3 rfl) ?_
        refine lv_iload hx hb dX9_copies_12 (lv_at hl 5 rfl) ?_
        refine lv_iadd hx hb dX9_copies_14 ?_
        refine lv_aload_n hx hb dX9_copies_15 rfl (lv_at hl 0 rfl) ?_
        refine lv_iload_n hx hb dX9_copies_16 rfl (lv_at hl 1 rfl) ?_
        refine lv_iload hx hb dX9_copies_17 (lv_at hl 5 rfl) ?_
        refine lv_iadd hx hb dX9_copies_19 ?_
        obtain ⟨hi, hf⟩ := gIx_some hf
        refine va_iald hx hb hK hP 0 1 rfl rfl hi dX9_copies_20 ?_
        obtain ⟨hi, hf⟩ := gIx_some hf
        refine va_iast hx hb hK hP hD hS 1 1 rfl rfl hi dX9_copies_21 (fun H locs hP hD hS => ?_)
        have hP : va_P D vwCl (w_X9_copies kc a0 a1 n_y0 n_y2 y0 (upd y2_3 ((x3 + y5_3) : Int32).toNatClampNeg (y0 ((x1 + y5_3) : Int32).toNatClampNeg))) H := hP
        have hD : va_D A (w_X9_copies kc a0 a1 n_y0 n_y2 y0 (upd y2_3 ((x3 + y5_3) : Int32).toNatClampNeg (y0 ((x1 + y5_3) : Int32).toNatClampNeg))) := hD
        refine lv_iinc (v := (y5_3 + 1)) (lv' := [(5, .int (y5_3 + 1)), (0, .ref a0), (1, .int x1), (2, .ref a1), (3, .int x3), (4, .int x4)]) hx hb dX9_copies_22 hl (k := 5) rfl (by rfl) (by decide) rfl (fun ls hl => ?_)
        refine lv_goto (tgt := 3) hx hb dX9_copies_25 (by decide) ?_
        exact ih _ _ _ _ hf hk _ _ _ hP hD hS (lv_sub hl [1, 2, 3, 4, 5, 0] rfl)
  obtain ⟨y5_3o, y2_3o, hc, hf⟩ := ob2_some hf
  refine L3 N _ _ _ _ hc (fun H locs ls hP hD hS hl => ?_) _ _ _ hP hD hS (lv_sub hl [1, 2, 3, 4, 5, 0] rfl)
  cases hf
  exact kR _ _ _ _ hP hD hS dX9_copies_28
abbrev w_X9_lifts (kc : Nat → ClassId) (a0 : Nat) (n_y0 : Nat) (y0 : Nat → Int32) : va_W := [(a0, .inl (kc 1, n_y0, .inl y0))]
set_option maxHeartbeats 4000000 in
set_option maxRecDepth 100000 in
theorem c_X9_lifts (l : Launch) (D : va_G) (kc : Nat → ClassId) (N : Nat) (a0 : Nat) (n_y0 : Nat) (y0 : Nat → Int32) (y0' : Nat → Int32) (hf : f_X9_lifts N n_y0 y0 = some y0') : MV l yX9_lifts wsX9_lifts ({ frames := 1, cells := 0, slots := 0, locals := 25 }) D kc [.ref a0] (w_X9_lifts kc a0 n_y0 y0) (w_X9_lifts kc a0 n_y0 y0') := by
  refine gM_V (cc := cX9_lifts) (maxL := 2) (by decide) rfl (Nat.le_of_ble_eq_true rfl) ?_
  intro p e s m below meth c A ls Q hx hb hml hown hts hN hK hP hD hA hl kR
  have hS : va_S A s.heap s.heap [] := va_S.rf
  have hl : lv_has ls 2 [(0, .ref a0)] := hl
  unfold f_X9_lifts at hf
  refine lv_aload_n hx hb dX9_lifts_0 rfl (lv_at hl 0 rfl) ?_
  refine va_alen hx hb hK hP 0 1 rfl rfl (v := (nI n_y0)) (by rfl) dX9_lifts_1 ?_
  refine lv_iconst (v := 2) hx hb dX9_lifts_2 (by decide) ?_
  refine lv_idiv hx hb dX9_lifts_3 (by decide) ?_
  refine lv_istore_n (lv' := [(1, .int ((nI n_y0) / 2)), (0, .ref a0)]) hx hb dX9_lifts_4 rfl hl (by decide) rfl (fun ls hl => ?_)
  refine lv_aload_n hx hb dX9_lifts_5 rfl (lv_at hl 1 rfl) ?_
  refine lv_iload_n hx hb dX9_lifts_6 rfl (lv_at hl 0 rfl) ?_
  refine lv_aload_n hx hb dX9_lifts_7 rfl (lv_at hl 1 rfl) ?_
  refine lv_iconst (v := 0) hx hb dX9_lifts_8 (by decide) ?_
  refine lv_iload_n hx hb dX9_lifts_9 rfl (lv_at hl 0 rfl) ?_
  obtain ⟨y0_1, hc, hf⟩ := ob1_some hf
  refine g_SV (As := [.ref a0, .int ((nI n_y0) / 2), .ref a0, .int 0, .int ((nI n_y0) / 2)]) (rest := []) (ws' := (w_X9_lifts kc a0 n_y0 y0_1)) ⟨hx, hb, hml, hown, hts⟩ hN hK hP hD hS hA (c_X9_copies_al l D kc N a0 n_y0 y0 ((nI n_y0) / 2) 0 ((nI n_y0) / 2) y0_1 hc) (va_cwS 5 hts gX9_lifts_X9_copies rfl rfl rfl (by decide +kernel) ⟨Nat.le_of_ble_eq_true rfl, Nat.le_of_ble_eq_true rfl⟩) [0] [] [0] (by exact ⟨rfl, rfl, by decide, rfl⟩) rfl hl.1 rfl (Nat.le_of_ble_eq_true rfl) dX9_lifts_10 ⟨Nat.le_refl _, Nat.le_refl _⟩ (fun H locs hP hD hS => ?_)
  cases hf
  exact kR _ _ _ _ hP hD hS dX9_lifts_13
abbrev w_X9_begins (kc : Nat → ClassId) (a0 a1 a2 a3 a4 a5 a6 a7 a8 a9 a10 a11 a12 a13 a14 a15 a16 a17 a18 a19 a20 a21 a22 a23 a24 a25 a26 a27 a28 : Nat) (thrown : Int32) (loftSize : Int32) (startWind : Int32) (seed : Int32) (draftLoft : Int32) (draftStart : Int32) (draftSeed : Int32) (length : Int32) (textSize : Int32) (start : Int32) (next_ : Int32) (token : Int32) (value : Int32) (error : Int32) (errorAt : Int32) (number : Int32) (undos : Int32) (now : Nat → Int32) (winds : Nat → Int32) (isSaved : Nat → Int32) : va_W := [(a0, .inr (9, [.int thrown, .ref a1, .ref a2, .ref a3, .ref a4, .ref a5, .ref a6, .ref a7, .ref a8, .ref a9, .ref a10, .ref a11, .ref a12, .ref a13, .ref a14, .ref a15, .ref a16, .ref a17, .ref a18, .ref a19, .int loftSize, .int startWind, .int seed, .int draftLoft, .int draftStart, .int draftSeed, .ref a20, .int length, .int textSize, .int start, .int next_, .int token, .int value, .int error, .int errorAt, .int number, .ref a21, .ref a22, .ref a23, .ref a24, .ref a25, .int undos, .ref a26, .ref a27, .ref a28])), (a1, .inl (kc 1, 213, .inl now)), (a6, .inl (kc 1, 2, .inl winds)), (a28, .inl (kc 3, 2, .inl isSaved))]
set_option maxHeartbeats 4000000 in
set_option maxRecDepth 100000 in
theorem c_X9_begins (l : Launch) (D : va_G) (kc : Nat → ClassId) (N : Nat) (a0 a1 a2 a3 a4 a5 a6 a7 a8 a9 a10 a11 a12 a13 a14 a15 a16 a17 a18 a19 a20 a21 a22 a23 a24 a25 a26 a27 a28 : Nat) (thrown : Int32) (loftSize : Int32) (startWind : Int32) (seed : Int32) (draftLoft : Int32) (draftStart : Int32) (draftSeed : Int32) (length : Int32) (textSize : Int32) (start : Int32) (next_ : Int32) (token : Int32) (value : Int32) (error : Int32) (errorAt : Int32) (number : Int32) (undos : Int32) (now : Nat → Int32) (winds : Nat → Int32) (isSaved : Nat → Int32) (undos' : Int32) (now' : Nat → Int32) (isSaved' : Nat → Int32) (hf : f_X9_begins N loftSize startWind seed now winds isSaved = some (undos', now', isSaved')) : MV l yX9_begins wsX9_begins ({ frames := 0, cells := 0, slots := 0, locals := 0 }) D kc [.ref a0] (w_X9_begins kc a0 a1 a2 a3 a4 a5 a6 a7 a8 a9 a10 a11 a12 a13 a14 a15 a16 a17 a18 a19 a20 a21 a22 a23 a24 a25 a26 a27 a28 thrown loftSize startWind seed draftLoft draftStart draftSeed length textSize start next_ token value error errorAt number undos now winds isSaved) (w_X9_begins kc a0 a1 a2 a3 a4 a5 a6 a7 a8 a9 a10 a11 a12 a13 a14 a15 a16 a17 a18 a19 a20 a21 a22 a23 a24 a25 a26 a27 a28 thrown loftSize startWind seed draftLoft draftStart draftSeed length textSize start next_ token value error errorAt number undos' now' winds isSaved') := by
  refine gM_V (cc := cX9_begins) (maxL := 2) (by decide) rfl (Nat.le_of_ble_eq_true rfl) ?_
  intro p e s m below meth c A ls Q hx hb hml hown hts hN hK hP hD hA hl kR
  have hS : va_S A s.heap s.heap [] := va_S.rf
  have hl : lv_has ls 2 [(0, .ref a0)] := hl
  have in_X9 : ∀ w ∈ u_ws RX9 TX9 45, w ∈ wsX9_begins := by decide +kernel
  have lk_13 := hts (.fieldLink RX9 13 "BalloonMailModel" "now" "[I") (by decide +kernel)
  have lk_29 := hts (.fieldLink RX9 29 "BalloonMailModel" "winds" "[I") (by decide +kernel)
  have lk_240 := hts (.fieldLink RX9 240 "BalloonMailModel" "startWind" "I") (by decide +kernel)
  have lk_107 := hts (.fieldLink RX9 107 "BalloonMailModel" "seed" "I") (by decide +kernel)
  have lk_104 := hts (.fieldLink RX9 104 "BalloonMailModel" "loftSize" "I") (by decide +kernel)
  have lk_243 := hts (.fieldLink RX9 243 "BalloonMailModel" "undos" "I") (by decide +kernel)
  have lk_100 := hts (.fieldLink RX9 100 "BalloonMailModel" "isSaved" "[Z") (by decide +kernel)
  have J45 : ∀ (now_45 : Nat → Int32) (k1_45 : Int32) (k2_45 : Int32), f_X9_begins_j45 N loftSize seed isSaved now_45 k1_45 k2_45 = some (undos', now', isSaved') → ∀ (H : Heap) (locs : List Loc) (ls : Array Slot), va_P D vwCl (w_X9_begins kc a0 a1 a2 a3 a4 a5 a6 a7 a8 a9 a10 a11 a12 a13 a14 a15 a16 a17 a18 a19 a20 a21 a22 a23 a24 a25 a26 a27 a28 thrown loftSize startWind seed draftLoft draftStart draftSeed length textSize start next_ token value error errorAt number undos now_45 winds isSaved) H → va_D A (w_X9_begins kc a0 a1 a2 a3 a4 a5 a6 a7 a8 a9 a10 a11 a12 a13 a14 a15 a16 a17 a18 a19 a20 a21 a22 a23 a24 a25 a26 a27 a28 thrown loftSize startWind seed draftLoft draftStart draftSeed length textSize start next_ token value error errorAt number undos now_45 winds isSaved) → va_S A s.heap H locs → lv_has ls 2 [(0, .ref a0)] → W p l e ({ frames := 0, cells := 0, slots := 0, locals := 0 }) s m (([.ref a0] : List Value).toArray) below meth c H locs 0 0 Q (F0 m 45 ls [.int k2_45, .int k1_45, .ref a1]) := by
    clear hf
    intro now_45 k1_45 k2_45 hf H locs ls hP hD hS hl
    unfold f_X9_begins_j45 at hf
    obtain ⟨hi, hf⟩ := gIx_some hf
    refine va_iast hx hb hK hP hD hS 1 1 rfl rfl hi dX9_begins_45 (fun H locs hP hD hS => ?_)
    have hP : va_P D vwCl (w_X9_begins kc a0 a1 a2 a3 a4 a5 a6 a7 a8 a9 a10 a11 a12 a13 a14 a15 a16 a17 a18 a19 a20 a21 a22 a23 a24 a25 a26 a27 a28 thrown loftSize startWind seed draftLoft draftStart draftSeed length textSize start next_ token value error errorAt number undos (upd now_45 (k1_45 : Int32).toNatClampNeg k2_45) winds isSaved) H := hP
    have hD : va_D A (w_X9_begins kc a0 a1 a2 a3 a4 a5 a6 a7 a8 a9 a10 a11 a12 a13 a14 a15 a16 a17 a18 a19 a20 a21 a22 a23 a24 a25 a26 a27 a28 thrown loftSize startWind seed draftLoft draftStart draftSeed length textSize start next_ token value error errorAt number undos (upd now_45 (k1_45 : Int32).toNatClampNeg k2_45) winds isSaved) := hD
    refine lv_aload_n hx hb dX9_begins_46 rfl (lv_at hl 0 rfl) ?_
    refine va_get (D := D) (ci := 9) (v := .ref a1) (C := RX9) (T := TX9) (N := 45) hx hb hts in_X9 hown hK hP 0 rfl rfl 1 (by decide) lk_13 (fun _ h9 => h9) rfl dX9_begins_47 ?_
    refine lv_iconst (v := 2) hx hb dX9_begins_50 (by decide) ?_
    refine lv_aload_n hx hb dX9_begins_51 rfl (lv_at hl 0 rfl) ?_
    refine va_get (D := D) (ci := 9) (v := .int seed) (C := RX9) (T := TX9) (N := 45) hx hb hts in_X9 hown hK hP 0 rfl rfl 22 (by decide) lk_107 (fun _ h9 => h9) rfl dX9_begins_52 ?_
    obtain ⟨hi, hf⟩ := gIx_some hf
    refine va_iast hx hb hK hP hD hS 1 1 rfl rfl hi dX9_begins_55 (fun H locs hP hD hS => ?_)
    have hP : va_P D vwCl (w_X9_begins kc a0 a1 a2 a3 a4 a5 a6 a7 a8 a9 a10 a11 a12 a13 a14 a15 a16 a17 a18 a19 a20 a21 a22 a23 a24 a25 a26 a27 a28 thrown loftSize startWind seed draftLoft draftStart draftSeed length textSize start next_ token value error errorAt number undos (upd (upd now_45 (k1_45 : Int32).toNatClampNeg k2_45) (2 : Int32).toNatClampNeg seed) winds isSaved) H := hP
    have hD : va_D A (w_X9_begins kc a0 a1 a2 a3 a4 a5 a6 a7 a8 a9 a10 a11 a12 a13 a14 a15 a16 a17 a18 a19 a20 a21 a22 a23 a24 a25 a26 a27 a28 thrown loftSize startWind seed draftLoft draftStart draftSeed length textSize start next_ token value error errorAt number undos (upd (upd now_45 (k1_45 : Int32).toNatClampNeg k2_45) (2 : Int32).toNatClampNeg seed) winds isSaved) := hD
    refine lv_aload_n hx hb dX9_begins_56 rfl (lv_at hl 0 rfl) ?_
    refine va_get (D := D) (ci := 9) (v := .ref a1) (C := RX9) (T := TX9) (N := 45) hx hb hts in_X9 hown hK hP 0 rfl rfl 1 (by decide) lk_13 (fun _ h9 => h9) rfl dX9_begins_57 ?_
    refine lv_iconst (v := 3) hx hb dX9_begins_60 (by decide) ?_
    refine lv_aload_n hx hb dX9_begins_61 rfl (lv_at hl 0 rfl) ?_
    refine va_get (D := D) (ci := 9) (v := .int loftSize) (C := RX9) (T := TX9) (N := 45) hx hb hts in_X9 hown hK hP 0 rfl rfl 20 (by decide) lk_104 (fun _ h9 => h9) rfl dX9_begins_62 ?_
    obtain ⟨hi, hf⟩ := gIx_some hf
    refine va_iast hx hb hK hP hD hS 1 1 rfl rfl hi dX9_begins_65 (fun H locs hP hD hS => ?_)
    have hP : va_P D vwCl (w_X9_begins kc a0 a1 a2 a3 a4 a5 a6 a7 a8 a9 a10 a11 a12 a13 a14 a15 a16 a17 a18 a19 a20 a21 a22 a23 a24 a25 a26 a27 a28 thrown loftSize startWind seed draftLoft draftStart draftSeed length textSize start next_ token value error errorAt number undos (upd (upd (upd now_45 (k1_45 : Int32).toNatClampNeg k2_45) (2 : Int32).toNatClampNeg seed) (3 : Int32).toNatClampNeg loftSize) winds isSaved) H := hP
    have hD : va_D A (w_X9_begins kc a0 a1 a2 a3 a4 a5 a6 a7 a8 a9 a10 a11 a12 a13 a14 a15 a16 a17 a18 a19 a20 a21 a22 a23 a24 a25 a26 a27 a28 thrown loftSize startWind seed draftLoft draftStart draftSeed length textSize start next_ token value error errorAt number undos (upd (upd (upd now_45 (k1_45 : Int32).toNatClampNeg k2_45) (2 : Int32).toNatClampNeg seed) (3 : Int32).toNatClampNeg loftSize) winds isSaved) := hD
    refine lv_iconst (v := 0) hx hb dX9_begins_66 (by decide) ?_
    refine lv_istore_n (lv' := [(1, .int 0), (0, .ref a0)]) hx hb dX9_begins_67 rfl hl (by decide) rfl (fun ls hl => ?_)
    have L68 : ∀ (n : Nat) (y1_68 : Int32) (now_68 : Nat → Int32) (y1_68o : Int32) (now_68o : Nat → Int32), f_X9_begins_68 N n y1_68 now_68 = some (y1_68o, now_68o) → (∀ (H : Heap) (locs : List Loc) (ls : Array Slot), va_P D vwCl (w_X9_begins kc a0 a1 a2 a3 a4 a5 a6 a7 a8 a9 a10 a11 a12 a13 a14 a15 a16 a17 a18 a19 a20 a21 a22 a23 a24 a25 a26 a27 a28 thrown loftSize startWind seed draftLoft draftStart draftSeed length textSize start next_ token value error errorAt number undos now_68o winds isSaved) H → va_D A (w_X9_begins kc a0 a1 a2 a3 a4 a5 a6 a7 a8 a9 a10 a11 a12 a13 a14 a15 a16 a17 a18 a19 a20 a21 a22 a23 a24 a25 a26 a27 a28 thrown loftSize startWind seed draftLoft draftStart draftSeed length textSize start next_ token value error errorAt number undos now_68o winds isSaved) → va_S A s.heap H locs → lv_has ls 2 [(0, .ref a0), (1, .int y1_68o)] → W p l e ({ frames := 0, cells := 0, slots := 0, locals := 0 }) s m (([.ref a0] : List Value).toArray) below meth c H locs 0 0 Q (F0 m 91 ls [])) → ∀ (H : Heap) (locs : List Loc) (ls : Array Slot), va_P D vwCl (w_X9_begins kc a0 a1 a2 a3 a4 a5 a6 a7 a8 a9 a10 a11 a12 a13 a14 a15 a16 a17 a18 a19 a20 a21 a22 a23 a24 a25 a26 a27 a28 thrown loftSize startWind seed draftLoft draftStart draftSeed length textSize start next_ token value error errorAt number undos now_68 winds isSaved) H → va_D A (w_X9_begins kc a0 a1 a2 a3 a4 a5 a6 a7 a8 a9 a10 a11 a12 a13 a14 a15 a16 a17 a18 a19 a20 a21 a22 a23 a24 a25 a26 a27 a28 thrown loftSize startWind seed draftLoft draftStart draftSeed length textSize start next_ token value error errorAt number undos now_68 winds isSaved) → va_S A s.heap H locs → lv_has ls 2 [(0, .ref a0), (1, .int y1_68)] → W p l e ({ frames := 0, cells := 0, slots := 0, locals := 0 }) s m (([.ref a0] : List Value).toArray) below meth c H locs 0 0 Q (F0 m 68 ls []) := by
      intro n
      induction n with
      | zero => intro _ _ _ _ hf; rw [f_X9_begins_68.eq_1] at hf; cases hf
      | succ n ih =>
        intro y1_68 now_68 y1_68o now_68o hf hk H locs ls hP hD hS hl
        rw [f_X9_begins_68.eq_2] at hf
        refine lv_iload_n hx hb dX9_begins_68 rfl (lv_at hl 1 rfl) ?_
        refine lv_bipush (v := 10) hx hb dX9_begins_69 (by decide) ?_
        refine lv_icmp_ge (tgt := 91) hx hb dX9_begins_71 (by decide) (fun hc => ?_) (fun hc => ?_)
        · have hf := o_t hc hf
          cases hf
          exact hk _ _ _ hP hD hS (lv_sub hl [0, 1] rfl)
        · have hf := o_f hc hf
          refine lv_aload_n hx hb dX9_begins_74 rfl (lv_at hl 0 rfl) ?_
          refine va_get (D := D) (ci := 9) (v := .ref a1) (C := RX9) (T := TX9) (N := 45) hx hb hts in_X9 hown hK hP 0 rfl rfl 1 (by decide) lk_13 (fun _ h9 => h9) rfl dX9_begins_75 ?_
          refine lv_bipush (v := 15) hx hb dX9_begins_78 (by decide) ?_
          refine lv_iload_n hx hb dX9_begins_80 rfl (lv_at hl 1 rfl) ?_
          refine lv_iadd hx hb dX9_begins_81 ?_
          refine lv_bipush (v := (-2)) hx hb dX9_begins_82 (by decide) ?_
          obtain ⟨hi, hf⟩ := gIx_some hf
          refine va_iast hx hb hK hP hD hS 1 1 rfl rfl hi dX9_begins_84 (fun H locs hP hD hS => ?_)
          have hP : va_P D vwCl (w_X9_begins kc a0 a1 a2 a3 a4 a5 a6 a7 a8 a9 a10 a11 a12 a13 a14 a15 a16 a17 a18 a19 a20 a21 a22 a23 a24 a25 a26 a27 a28 thrown loftSize startWind seed draftLoft draftStart draftSeed length textSize start next_ token value error errorAt number undos (upd now_68 ((15 + y1_68) : Int32).toNatClampNeg (-2)) winds isSaved) H := hP
          have hD : va_D A (w_X9_begins kc a0 a1 a2 a3 a4 a5 a6 a7 a8 a9 a10 a11 a12 a13 a14 a15 a16 a17 a18 a19 a20 a21 a22 a23 a24 a25 a26 a27 a28 thrown loftSize startWind seed draftLoft draftStart draftSeed length textSize start next_ token value error errorAt number undos (upd now_68 ((15 + y1_68) : Int32).toNatClampNeg (-2)) winds isSaved) := hD
          refine lv_iinc (v := (y1_68 + 1)) (lv' := [(1, .int (y1_68 + 1)), (0, .ref a0)]) hx hb dX9_begins_85 hl (k := 1) rfl (by rfl) (by decide) rfl (fun ls hl => ?_)
          refine lv_goto (tgt := 68) hx hb dX9_begins_88 (by decide) ?_
          exact ih _ _ _ _ hf hk _ _ _ hP hD hS (lv_sub hl [1, 0] rfl)
    obtain ⟨y1_68o, now_68o, hc, hf⟩ := ob2_some hf
    refine L68 N _ _ _ _ hc (fun H locs ls hP hD hS hl => ?_) _ _ _ hP hD hS (lv_sub hl [1, 0] rfl)
    refine lv_iconst (v := 0) hx hb dX9_begins_91 (by decide) ?_
    refine lv_istore_n (lv' := [(1, .int 0), (0, .ref a0)]) hx hb dX9_begins_92 rfl hl (by decide) rfl (fun ls hl => ?_)
    have L93 : ∀ (n : Nat) (y1_93 : Int32) (now_93 : Nat → Int32) (y1_93o : Int32) (now_93o : Nat → Int32), f_X9_begins_93 N n y1_93 now_93 = some (y1_93o, now_93o) → (∀ (H : Heap) (locs : List Loc) (ls : Array Slot), va_P D vwCl (w_X9_begins kc a0 a1 a2 a3 a4 a5 a6 a7 a8 a9 a10 a11 a12 a13 a14 a15 a16 a17 a18 a19 a20 a21 a22 a23 a24 a25 a26 a27 a28 thrown loftSize startWind seed draftLoft draftStart draftSeed length textSize start next_ token value error errorAt number undos now_93o winds isSaved) H → va_D A (w_X9_begins kc a0 a1 a2 a3 a4 a5 a6 a7 a8 a9 a10 a11 a12 a13 a14 a15 a16 a17 a18 a19 a20 a21 a22 a23 a24 a25 a26 a27 a28 thrown loftSize startWind seed draftLoft draftStart draftSeed length textSize start next_ token value error errorAt number undos now_93o winds isSaved) → va_S A s.heap H locs → lv_has ls 2 [(0, .ref a0), (1, .int y1_93o)] → W p l e ({ frames := 0, cells := 0, slots := 0, locals := 0 }) s m (([.ref a0] : List Value).toArray) below meth c H locs 0 0 Q (F0 m 116 ls [])) → ∀ (H : Heap) (locs : List Loc) (ls : Array Slot), va_P D vwCl (w_X9_begins kc a0 a1 a2 a3 a4 a5 a6 a7 a8 a9 a10 a11 a12 a13 a14 a15 a16 a17 a18 a19 a20 a21 a22 a23 a24 a25 a26 a27 a28 thrown loftSize startWind seed draftLoft draftStart draftSeed length textSize start next_ token value error errorAt number undos now_93 winds isSaved) H → va_D A (w_X9_begins kc a0 a1 a2 a3 a4 a5 a6 a7 a8 a9 a10 a11 a12 a13 a14 a15 a16 a17 a18 a19 a20 a21 a22 a23 a24 a25 a26 a27 a28 thrown loftSize startWind seed draftLoft draftStart draftSeed length textSize start next_ token value error errorAt number undos now_93 winds isSaved) → va_S A s.heap H locs → lv_has ls 2 [(0, .ref a0), (1, .int y1_93)] → W p l e ({ frames := 0, cells := 0, slots := 0, locals := 0 }) s m (([.ref a0] : List Value).toArray) below meth c H locs 0 0 Q (F0 m 93 ls []) := by
      intro n
      induction n with
      | zero => intro _ _ _ _ hf; rw [f_X9_begins_93.eq_1] at hf; cases hf
      | succ n ih =>
        intro y1_93 now_93 y1_93o now_93o hf hk H locs ls hP hD hS hl
        rw [f_X9_begins_93.eq_2] at hf
        refine lv_iload_n hx hb dX9_begins_93 rfl (lv_at hl 1 rfl) ?_
        refine lv_bipush (v := 24) hx hb dX9_begins_94 (by decide) ?_
        refine lv_icmp_ge (tgt := 116) hx hb dX9_begins_96 (by decide) (fun hc => ?_) (fun hc => ?_)
        · have hf := o_t hc hf
          cases hf
          exact hk _ _ _ hP hD hS (lv_sub hl [0, 1] rfl)
        · have hf := o_f hc hf
          refine lv_aload_n hx hb dX9_begins_99 rfl (lv_at hl 0 rfl) ?_
          refine va_get (D := D) (ci := 9) (v := .ref a1) (C := RX9) (T := TX9) (N := 45) hx hb hts in_X9 hown hK hP 0 rfl rfl 1 (by decide) lk_13 (fun _ h9 => h9) rfl dX9_begins_100 ?_
          refine lv_bipush (v := 59) hx hb dX9_begins_103 (by decide) ?_
          refine lv_iload_n hx hb dX9_begins_105 rfl (lv_at hl 1 rfl) ?_
          refine lv_iadd hx hb dX9_begins_106 ?_
          refine lv_bipush (v := (-2)) hx hb dX9_begins_107 (by decide) ?_
          obtain ⟨hi, hf⟩ := gIx_some hf
          refine va_iast hx hb hK hP hD hS 1 1 rfl rfl hi dX9_begins_109 (fun H locs hP hD hS => ?_)
          have hP : va_P D vwCl (w_X9_begins kc a0 a1 a2 a3 a4 a5 a6 a7 a8 a9 a10 a11 a12 a13 a14 a15 a16 a17 a18 a19 a20 a21 a22 a23 a24 a25 a26 a27 a28 thrown loftSize startWind seed draftLoft draftStart draftSeed length textSize start next_ token value error errorAt number undos (upd now_93 ((59 + y1_93) : Int32).toNatClampNeg (-2)) winds isSaved) H := hP
          have hD : va_D A (w_X9_begins kc a0 a1 a2 a3 a4 a5 a6 a7 a8 a9 a10 a11 a12 a13 a14 a15 a16 a17 a18 a19 a20 a21 a22 a23 a24 a25 a26 a27 a28 thrown loftSize startWind seed draftLoft draftStart draftSeed length textSize start next_ token value error errorAt number undos (upd now_93 ((59 + y1_93) : Int32).toNatClampNeg (-2)) winds isSaved) := hD
          refine lv_iinc (v := (y1_93 + 1)) (lv' := [(1, .int (y1_93 + 1)), (0, .ref a0)]) hx hb dX9_begins_110 hl (k := 1) rfl (by rfl) (by decide) rfl (fun ls hl => ?_)
          refine lv_goto (tgt := 93) hx hb dX9_begins_113 (by decide) ?_
          exact ih _ _ _ _ hf hk _ _ _ hP hD hS (lv_sub hl [1, 0] rfl)
    obtain ⟨y1_93o, now_93o, hc, hf⟩ := ob2_some hf
    refine L93 N _ _ _ _ hc (fun H locs ls hP hD hS hl => ?_) _ _ _ hP hD hS (lv_sub hl [1, 0] rfl)
    refine lv_aload_n hx hb dX9_begins_116 rfl (lv_at hl 0 rfl) ?_
    refine lv_iconst (v := 0) hx hb dX9_begins_117 (by decide) ?_
    refine va_put (D := D) (ci := 9) (v := .int 0) (ty := .int) (C := RX9) (T := TX9) (N := 45) hx hb hts in_X9 tyX9 tyX9_ok nmX9 hown hK hP hD hS 0 rfl rfl 41 (by decide) lk_243 (fun _ h9 => h9) rfl (by decide +kernel) rfl rfl (Nat.le_of_ble_eq_true rfl) dX9_begins_118 (fun H locs hP hD hS => ?_)
    have hP : va_P D vwCl (w_X9_begins kc a0 a1 a2 a3 a4 a5 a6 a7 a8 a9 a10 a11 a12 a13 a14 a15 a16 a17 a18 a19 a20 a21 a22 a23 a24 a25 a26 a27 a28 thrown loftSize startWind seed draftLoft draftStart draftSeed length textSize start next_ token value error errorAt number 0 now_93o winds isSaved) H := hP
    have hD : va_D A (w_X9_begins kc a0 a1 a2 a3 a4 a5 a6 a7 a8 a9 a10 a11 a12 a13 a14 a15 a16 a17 a18 a19 a20 a21 a22 a23 a24 a25 a26 a27 a28 thrown loftSize startWind seed draftLoft draftStart draftSeed length textSize start next_ token value error errorAt number 0 now_93o winds isSaved) := hD
    refine lv_aload_n hx hb dX9_begins_121 rfl (lv_at hl 0 rfl) ?_
    refine va_get (D := D) (ci := 9) (v := .ref a28) (C := RX9) (T := TX9) (N := 45) hx hb hts in_X9 hown hK hP 0 rfl rfl 44 (by decide) lk_100 (fun _ h9 => h9) rfl dX9_begins_122 ?_
    refine lv_iconst (v := 0) hx hb dX9_begins_125 (by decide) ?_
    refine lv_iconst (v := 0) hx hb dX9_begins_126 (by decide) ?_
    obtain ⟨hi, hf⟩ := gIx_some hf
    refine va_zast hx hb hK hP hD hS 3 3 rfl rfl hi dX9_begins_127 (fun H locs hP hD hS => ?_)
    have hP : va_P D vwCl (w_X9_begins kc a0 a1 a2 a3 a4 a5 a6 a7 a8 a9 a10 a11 a12 a13 a14 a15 a16 a17 a18 a19 a20 a21 a22 a23 a24 a25 a26 a27 a28 thrown loftSize startWind seed draftLoft draftStart draftSeed length textSize start next_ token value error errorAt number 0 now_93o winds (upd isSaved (0 : Int32).toNatClampNeg (vp_nar .boolean 0))) H := hP
    have hD : va_D A (w_X9_begins kc a0 a1 a2 a3 a4 a5 a6 a7 a8 a9 a10 a11 a12 a13 a14 a15 a16 a17 a18 a19 a20 a21 a22 a23 a24 a25 a26 a27 a28 thrown loftSize startWind seed draftLoft draftStart draftSeed length textSize start next_ token value error errorAt number 0 now_93o winds (upd isSaved (0 : Int32).toNatClampNeg (vp_nar .boolean 0))) := hD
    refine lv_aload_n hx hb dX9_begins_128 rfl (lv_at hl 0 rfl) ?_
    refine va_get (D := D) (ci := 9) (v := .ref a28) (C := RX9) (T := TX9) (N := 45) hx hb hts in_X9 hown hK hP 0 rfl rfl 44 (by decide) lk_100 (fun _ h9 => h9) rfl dX9_begins_129 ?_
    refine lv_iconst (v := 1) hx hb dX9_begins_132 (by decide) ?_
    refine lv_iconst (v := 0) hx hb dX9_begins_133 (by decide) ?_
    obtain ⟨hi, hf⟩ := gIx_some hf
    refine va_zast hx hb hK hP hD hS 3 3 rfl rfl hi dX9_begins_134 (fun H locs hP hD hS => ?_)
    have hP : va_P D vwCl (w_X9_begins kc a0 a1 a2 a3 a4 a5 a6 a7 a8 a9 a10 a11 a12 a13 a14 a15 a16 a17 a18 a19 a20 a21 a22 a23 a24 a25 a26 a27 a28 thrown loftSize startWind seed draftLoft draftStart draftSeed length textSize start next_ token value error errorAt number 0 now_93o winds (upd (upd isSaved (0 : Int32).toNatClampNeg (vp_nar .boolean 0)) (1 : Int32).toNatClampNeg (vp_nar .boolean 0))) H := hP
    have hD : va_D A (w_X9_begins kc a0 a1 a2 a3 a4 a5 a6 a7 a8 a9 a10 a11 a12 a13 a14 a15 a16 a17 a18 a19 a20 a21 a22 a23 a24 a25 a26 a27 a28 thrown loftSize startWind seed draftLoft draftStart draftSeed length textSize start next_ token value error errorAt number 0 now_93o winds (upd (upd isSaved (0 : Int32).toNatClampNeg (vp_nar .boolean 0)) (1 : Int32).toNatClampNeg (vp_nar .boolean 0))) := hD
    cases hf
    exact kR _ _ _ _ hP hD hS dX9_begins_135
  unfold f_X9_begins at hf
  refine lv_iconst (v := 0) hx hb dX9_begins_0 (by decide) ?_
  refine lv_istore_n (lv' := [(1, .int 0), (0, .ref a0)]) hx hb dX9_begins_1 rfl hl (by decide) rfl (fun ls hl => ?_)
  have L2 : ∀ (n : Nat) (y1_2 : Int32) (now_2 : Nat → Int32) (y1_2o : Int32) (now_2o : Nat → Int32), f_X9_begins_2 N n y1_2 now_2 = some (y1_2o, now_2o) → (∀ (H : Heap) (locs : List Loc) (ls : Array Slot), va_P D vwCl (w_X9_begins kc a0 a1 a2 a3 a4 a5 a6 a7 a8 a9 a10 a11 a12 a13 a14 a15 a16 a17 a18 a19 a20 a21 a22 a23 a24 a25 a26 a27 a28 thrown loftSize startWind seed draftLoft draftStart draftSeed length textSize start next_ token value error errorAt number undos now_2o winds isSaved) H → va_D A (w_X9_begins kc a0 a1 a2 a3 a4 a5 a6 a7 a8 a9 a10 a11 a12 a13 a14 a15 a16 a17 a18 a19 a20 a21 a22 a23 a24 a25 a26 a27 a28 thrown loftSize startWind seed draftLoft draftStart draftSeed length textSize start next_ token value error errorAt number undos now_2o winds isSaved) → va_S A s.heap H locs → lv_has ls 2 [(0, .ref a0), (1, .int y1_2o)] → W p l e ({ frames := 0, cells := 0, slots := 0, locals := 0 }) s m (([.ref a0] : List Value).toArray) below meth c H locs 0 0 Q (F0 m 22 ls [])) → ∀ (H : Heap) (locs : List Loc) (ls : Array Slot), va_P D vwCl (w_X9_begins kc a0 a1 a2 a3 a4 a5 a6 a7 a8 a9 a10 a11 a12 a13 a14 a15 a16 a17 a18 a19 a20 a21 a22 a23 a24 a25 a26 a27 a28 thrown loftSize startWind seed draftLoft draftStart draftSeed length textSize start next_ token value error errorAt number undos now_2 winds isSaved) H → va_D A (w_X9_begins kc a0 a1 a2 a3 a4 a5 a6 a7 a8 a9 a10 a11 a12 a13 a14 a15 a16 a17 a18 a19 a20 a21 a22 a23 a24 a25 a26 a27 a28 thrown loftSize startWind seed draftLoft draftStart draftSeed length textSize start next_ token value error errorAt number undos now_2 winds isSaved) → va_S A s.heap H locs → lv_has ls 2 [(0, .ref a0), (1, .int y1_2)] → W p l e ({ frames := 0, cells := 0, slots := 0, locals := 0 }) s m (([.ref a0] : List Value).toArray) below meth c H locs 0 0 Q (F0 m 2 ls []) := by
    intro n
    induction n with
    | zero => intro _ _ _ _ hf; rw [f_X9_begins_2.eq_1] at hf; cases hf
    | succ n ih =>
      intro y1_2 now_2 y1_2o now_2o hf hk H locs ls hP hD hS hl
      rw [f_X9_begins_2.eq_2] at hf
      refine lv_iload_n hx hb dX9_begins_2 rfl (lv_at hl 1 rfl) ?_
      refine lv_sipush (v := 213) hx hb dX9_begins_3 (by decide) ?_
      refine lv_icmp_ge (tgt := 22) hx hb dX9_begins_6 (by decide) (fun hc => ?_) (fun hc => ?_)
      · have hf := o_t hc hf
        cases hf
        exact hk _ _ _ hP hD hS (lv_sub hl [0, 1] rfl)
      · have hf := o_f hc hf
        refine lv_aload_n hx hb dX9_begins_9 rfl (lv_at hl 0 rfl) ?_
        refine va_get (D := D) (ci := 9) (v := .ref a1) (C := RX9) (T := TX9) (N := 45) hx hb hts in_X9 hown hK hP 0 rfl rfl 1 (by decide) lk_13 (fun _ h9 => h9) rfl dX9_begins_10 ?_
        refine lv_iload_n hx hb dX9_begins_13 rfl (lv_at hl 1 rfl) ?_
        refine lv_iconst (v := 0) hx hb dX9_begins_14 (by decide) ?_
        obtain ⟨hi, hf⟩ := gIx_some hf
        refine va_iast hx hb hK hP hD hS 1 1 rfl rfl hi dX9_begins_15 (fun H locs hP hD hS => ?_)
        have hP : va_P D vwCl (w_X9_begins kc a0 a1 a2 a3 a4 a5 a6 a7 a8 a9 a10 a11 a12 a13 a14 a15 a16 a17 a18 a19 a20 a21 a22 a23 a24 a25 a26 a27 a28 thrown loftSize startWind seed draftLoft draftStart draftSeed length textSize start next_ token value error errorAt number undos (upd now_2 (y1_2 : Int32).toNatClampNeg 0) winds isSaved) H := hP
        have hD : va_D A (w_X9_begins kc a0 a1 a2 a3 a4 a5 a6 a7 a8 a9 a10 a11 a12 a13 a14 a15 a16 a17 a18 a19 a20 a21 a22 a23 a24 a25 a26 a27 a28 thrown loftSize startWind seed draftLoft draftStart draftSeed length textSize start next_ token value error errorAt number undos (upd now_2 (y1_2 : Int32).toNatClampNeg 0) winds isSaved) := hD
        refine lv_iinc (v := (y1_2 + 1)) (lv' := [(1, .int (y1_2 + 1)), (0, .ref a0)]) hx hb dX9_begins_16 hl (k := 1) rfl (by rfl) (by decide) rfl (fun ls hl => ?_)
        refine lv_goto (tgt := 2) hx hb dX9_begins_19 (by decide) ?_
        exact ih _ _ _ _ hf hk _ _ _ hP hD hS (lv_sub hl [1, 0] rfl)
  obtain ⟨y1_2o, now_2o, hc, hf⟩ := ob2_some hf
  refine L2 N _ _ _ _ hc (fun H locs ls hP hD hS hl => ?_) _ _ _ hP hD hS (lv_sub hl [1, 0] rfl)
  refine lv_aload_n hx hb dX9_begins_22 rfl (lv_at hl 0 rfl) ?_
  refine va_get (D := D) (ci := 9) (v := .ref a1) (C := RX9) (T := TX9) (N := 45) hx hb hts in_X9 hown hK hP 0 rfl rfl 1 (by decide) lk_13 (fun _ h9 => h9) rfl dX9_begins_23 ?_
  refine lv_iconst (v := 1) hx hb dX9_begins_26 (by decide) ?_
  refine lv_aload_n hx hb dX9_begins_27 rfl (lv_at hl 0 rfl) ?_
  refine va_get (D := D) (ci := 9) (v := .ref a6) (C := RX9) (T := TX9) (N := 45) hx hb hts in_X9 hown hK hP 0 rfl rfl 6 (by decide) lk_29 (fun _ h9 => h9) rfl dX9_begins_28 ?_
  refine lv_iconst (v := 0) hx hb dX9_begins_31 (by decide) ?_
  obtain ⟨hi, hf⟩ := gIx_some hf
  refine va_iald hx hb hK hP 2 1 rfl rfl hi dX9_begins_32 ?_
  refine lv_if_ne (tgt := 41) hx hb dX9_begins_33 (by decide) (fun hc => ?_) (fun hc => ?_)
  · have hf := o_f hc hf
    refine lv_aload_n hx hb dX9_begins_41 rfl (lv_at hl 0 rfl) ?_
    refine va_get (D := D) (ci := 9) (v := .int startWind) (C := RX9) (T := TX9) (N := 45) hx hb hts in_X9 hown hK hP 0 rfl rfl 21 (by decide) lk_240 (fun _ h9 => h9) rfl dX9_begins_42 ?_
    exact J45 _ _ _ hf _ _ _ hP hD hS (lv_sub hl [0] rfl)
  · have hf := o_t hc hf
    refine lv_bipush (v := (-2)) hx hb dX9_begins_36 (by decide) ?_
    refine lv_goto (tgt := 45) hx hb dX9_begins_38 (by decide) ?_
    exact J45 _ _ _ hf _ _ _ hP hD hS (lv_sub hl [0] rfl)
abbrev w_X9_becomes (kc : Nat → ClassId) (a0 a1 a2 a3 a4 a5 a6 a7 a8 a9 a10 a11 a12 a13 a14 a15 a16 a17 a18 a19 a20 a21 a22 a23 a24 a25 a26 a27 a28 : Nat) (thrown : Int32) (loftSize : Int32) (startWind : Int32) (seed : Int32) (draftLoft : Int32) (draftStart : Int32) (draftSeed : Int32) (length : Int32) (textSize : Int32) (start : Int32) (next_ : Int32) (token : Int32) (value : Int32) (error : Int32) (errorAt : Int32) (number : Int32) (undos : Int32) (regions : Nat → Int32) (risk : Nat → Int32) (distance : Nat → Int32) (comesBack : Nat → Int32) (winds : Nat → Int32) (named : Nat → Int32) (namedRegion : Nat → Int32) (namedWeight : Nat → Int32) (turns : Nat → Int32) (turnFrom : Nat → Int32) (turnTo : Nat → Int32) (turnWeight : Nat → Int32) (balloons : Nat → Int32) (room_ : Nat → Int32) (pigeons : Nat → Int32) (letters : Nat → Int32) (weight : Nat → Int32) (priority : Nat → Int32) (now : Nat → Int32) (isSaved : Nat → Int32) : va_W := [(a0, .inr (9, [.int thrown, .ref a1, .ref a2, .ref a3, .ref a4, .ref a5, .ref a6, .ref a7, .ref a8, .ref a9, .ref a10, .ref a11, .ref a12, .ref a13, .ref a14, .ref a15, .ref a16, .ref a17, .ref a18, .ref a19, .int loftSize, .int startWind, .int seed, .int draftLoft, .int draftStart, .int draftSeed, .ref a20, .int length, .int textSize, .int start, .int next_, .int token, .int value, .int error, .int errorAt, .int number, .ref a21, .ref a22, .ref a23, .ref a24, .ref a25, .int undos, .ref a26, .ref a27, .ref a28])), (a2, .inl (kc 1, 2, .inl regions)), (a3, .inl (kc 1, 16, .inl risk)), (a4, .inl (kc 1, 16, .inl distance)), (a5, .inl (kc 1, 16, .inl comesBack)), (a6, .inl (kc 1, 2, .inl winds)), (a7, .inl (kc 1, 12, .inl named)), (a8, .inl (kc 1, 96, .inl namedRegion)), (a9, .inl (kc 1, 96, .inl namedWeight)), (a10, .inl (kc 1, 2, .inl turns)), (a11, .inl (kc 1, 60, .inl turnFrom)), (a12, .inl (kc 1, 60, .inl turnTo)), (a13, .inl (kc 1, 60, .inl turnWeight)), (a14, .inl (kc 1, 2, .inl balloons)), (a15, .inl (kc 1, 20, .inl room_)), (a16, .inl (kc 1, 20, .inl pigeons)), (a17, .inl (kc 1, 2, .inl letters)), (a18, .inl (kc 1, 48, .inl weight)), (a19, .inl (kc 1, 48, .inl priority)), (a1, .inl (kc 1, 213, .inl now)), (a28, .inl (kc 3, 2, .inl isSaved))]
set_option maxHeartbeats 4000000 in
set_option maxRecDepth 100000 in
theorem c_X9_becomes (l : Launch) (D : va_G) (kc : Nat → ClassId) (N : Nat) (a0 a1 a2 a3 a4 a5 a6 a7 a8 a9 a10 a11 a12 a13 a14 a15 a16 a17 a18 a19 a20 a21 a22 a23 a24 a25 a26 a27 a28 : Nat) (thrown : Int32) (loftSize : Int32) (startWind : Int32) (seed : Int32) (draftLoft : Int32) (draftStart : Int32) (draftSeed : Int32) (length : Int32) (textSize : Int32) (start : Int32) (next_ : Int32) (token : Int32) (value : Int32) (error : Int32) (errorAt : Int32) (number : Int32) (undos : Int32) (regions : Nat → Int32) (risk : Nat → Int32) (distance : Nat → Int32) (comesBack : Nat → Int32) (winds : Nat → Int32) (named : Nat → Int32) (namedRegion : Nat → Int32) (namedWeight : Nat → Int32) (turns : Nat → Int32) (turnFrom : Nat → Int32) (turnTo : Nat → Int32) (turnWeight : Nat → Int32) (balloons : Nat → Int32) (room_ : Nat → Int32) (pigeons : Nat → Int32) (letters : Nat → Int32) (weight : Nat → Int32) (priority : Nat → Int32) (now : Nat → Int32) (isSaved : Nat → Int32) (loftSize' : Int32) (startWind' : Int32) (seed' : Int32) (undos' : Int32) (regions' : Nat → Int32) (risk' : Nat → Int32) (distance' : Nat → Int32) (comesBack' : Nat → Int32) (winds' : Nat → Int32) (named' : Nat → Int32) (namedRegion' : Nat → Int32) (namedWeight' : Nat → Int32) (turns' : Nat → Int32) (turnFrom' : Nat → Int32) (turnTo' : Nat → Int32) (turnWeight' : Nat → Int32) (balloons' : Nat → Int32) (room_' : Nat → Int32) (pigeons' : Nat → Int32) (letters' : Nat → Int32) (weight' : Nat → Int32) (priority' : Nat → Int32) (now' : Nat → Int32) (isSaved' : Nat → Int32) (hf : f_X9_becomes N draftLoft draftStart draftSeed regions risk distance comesBack winds named namedRegion namedWeight turns turnFrom turnTo turnWeight balloons room_ pigeons letters weight priority now isSaved = some (loftSize', startWind', seed', undos', regions', risk', distance', comesBack', winds', named', namedRegion', namedWeight', turns', turnFrom', turnTo', turnWeight', balloons', room_', pigeons', letters', weight', priority', now', isSaved')) : MV l yX9_becomes wsX9_becomes ({ frames := 2, cells := 0, slots := 0, locals := 46 }) D kc [.ref a0] (w_X9_becomes kc a0 a1 a2 a3 a4 a5 a6 a7 a8 a9 a10 a11 a12 a13 a14 a15 a16 a17 a18 a19 a20 a21 a22 a23 a24 a25 a26 a27 a28 thrown loftSize startWind seed draftLoft draftStart draftSeed length textSize start next_ token value error errorAt number undos regions risk distance comesBack winds named namedRegion namedWeight turns turnFrom turnTo turnWeight balloons room_ pigeons letters weight priority now isSaved) (w_X9_becomes kc a0 a1 a2 a3 a4 a5 a6 a7 a8 a9 a10 a11 a12 a13 a14 a15 a16 a17 a18 a19 a20 a21 a22 a23 a24 a25 a26 a27 a28 thrown loftSize' startWind' seed' draftLoft draftStart draftSeed length textSize start next_ token value error errorAt number undos' regions' risk' distance' comesBack' winds' named' namedRegion' namedWeight' turns' turnFrom' turnTo' turnWeight' balloons' room_' pigeons' letters' weight' priority' now' isSaved') := by
  refine gM_V (cc := cX9_becomes) (maxL := 1) (by decide) rfl (Nat.le_of_ble_eq_true rfl) ?_
  intro p e s m below meth c A ls Q hx hb hml hown hts hN hK hP hD hA hl kR
  have hS : va_S A s.heap s.heap [] := va_S.rf
  have hl : lv_has ls 1 [(0, .ref a0)] := hl
  have in_X9 : ∀ w ∈ u_ws RX9 TX9 45, w ∈ wsX9_becomes := by decide +kernel
  have lk_17 := hts (.fieldLink RX9 17 "BalloonMailModel" "regions" "[I") (by decide +kernel)
  have lk_20 := hts (.fieldLink RX9 20 "BalloonMailModel" "risk" "[I") (by decide +kernel)
  have lk_23 := hts (.fieldLink RX9 23 "BalloonMailModel" "distance" "[I") (by decide +kernel)
  have lk_26 := hts (.fieldLink RX9 26 "BalloonMailModel" "comesBack" "[I") (by decide +kernel)
  have lk_29 := hts (.fieldLink RX9 29 "BalloonMailModel" "winds" "[I") (by decide +kernel)
  have lk_32 := hts (.fieldLink RX9 32 "BalloonMailModel" "named" "[I") (by decide +kernel)
  have lk_35 := hts (.fieldLink RX9 35 "BalloonMailModel" "namedRegion" "[I") (by decide +kernel)
  have lk_38 := hts (.fieldLink RX9 38 "BalloonMailModel" "namedWeight" "[I") (by decide +kernel)
  have lk_41 := hts (.fieldLink RX9 41 "BalloonMailModel" "turns" "[I") (by decide +kernel)
  have lk_44 := hts (.fieldLink RX9 44 "BalloonMailModel" "turnFrom" "[I") (by decide +kernel)
  have lk_47 := hts (.fieldLink RX9 47 "BalloonMailModel" "turnTo" "[I") (by decide +kernel)
  have lk_50 := hts (.fieldLink RX9 50 "BalloonMailModel" "turnWeight" "[I") (by decide +kernel)
  have lk_53 := hts (.fieldLink RX9 53 "BalloonMailModel" "balloons" "[I") (by decide +kernel)
  have lk_56 := hts (.fieldLink RX9 56 "BalloonMailModel" "room" "[I") (by decide +kernel)
  have lk_59 := hts (.fieldLink RX9 59 "BalloonMailModel" "pigeons" "[I") (by decide +kernel)
  have lk_62 := hts (.fieldLink RX9 62 "BalloonMailModel" "letters" "[I") (by decide +kernel)
  have lk_65 := hts (.fieldLink RX9 65 "BalloonMailModel" "weight" "[I") (by decide +kernel)
  have lk_68 := hts (.fieldLink RX9 68 "BalloonMailModel" "priority" "[I") (by decide +kernel)
  have lk_182 := hts (.fieldLink RX9 182 "BalloonMailModel" "draftLoft" "I") (by decide +kernel)
  have lk_104 := hts (.fieldLink RX9 104 "BalloonMailModel" "loftSize" "I") (by decide +kernel)
  have lk_190 := hts (.fieldLink RX9 190 "BalloonMailModel" "draftStart" "I") (by decide +kernel)
  have lk_240 := hts (.fieldLink RX9 240 "BalloonMailModel" "startWind" "I") (by decide +kernel)
  have lk_194 := hts (.fieldLink RX9 194 "BalloonMailModel" "draftSeed" "I") (by decide +kernel)
  have lk_107 := hts (.fieldLink RX9 107 "BalloonMailModel" "seed" "I") (by decide +kernel)
  have J166 : ∀ (loftSize_166 : Int32) (regions_166 : Nat → Int32) (risk_166 : Nat → Int32) (distance_166 : Nat → Int32) (comesBack_166 : Nat → Int32) (winds_166 : Nat → Int32) (named_166 : Nat → Int32) (namedRegion_166 : Nat → Int32) (namedWeight_166 : Nat → Int32) (turns_166 : Nat → Int32) (turnFrom_166 : Nat → Int32) (turnTo_166 : Nat → Int32) (turnWeight_166 : Nat → Int32) (balloons_166 : Nat → Int32) (room__166 : Nat → Int32) (pigeons_166 : Nat → Int32) (letters_166 : Nat → Int32) (weight_166 : Nat → Int32) (priority_166 : Nat → Int32) (k1_166 : Int32), f_X9_becomes_j166 N draftSeed now isSaved loftSize_166 regions_166 risk_166 distance_166 comesBack_166 winds_166 named_166 namedRegion_166 namedWeight_166 turns_166 turnFrom_166 turnTo_166 turnWeight_166 balloons_166 room__166 pigeons_166 letters_166 weight_166 priority_166 k1_166 = some (loftSize', startWind', seed', undos', regions', risk', distance', comesBack', winds', named', namedRegion', namedWeight', turns', turnFrom', turnTo', turnWeight', balloons', room_', pigeons', letters', weight', priority', now', isSaved') → ∀ (H : Heap) (locs : List Loc) (ls : Array Slot), va_P D vwCl (w_X9_becomes kc a0 a1 a2 a3 a4 a5 a6 a7 a8 a9 a10 a11 a12 a13 a14 a15 a16 a17 a18 a19 a20 a21 a22 a23 a24 a25 a26 a27 a28 thrown loftSize_166 startWind seed draftLoft draftStart draftSeed length textSize start next_ token value error errorAt number undos regions_166 risk_166 distance_166 comesBack_166 winds_166 named_166 namedRegion_166 namedWeight_166 turns_166 turnFrom_166 turnTo_166 turnWeight_166 balloons_166 room__166 pigeons_166 letters_166 weight_166 priority_166 now isSaved) H → va_D A (w_X9_becomes kc a0 a1 a2 a3 a4 a5 a6 a7 a8 a9 a10 a11 a12 a13 a14 a15 a16 a17 a18 a19 a20 a21 a22 a23 a24 a25 a26 a27 a28 thrown loftSize_166 startWind seed draftLoft draftStart draftSeed length textSize start next_ token value error errorAt number undos regions_166 risk_166 distance_166 comesBack_166 winds_166 named_166 namedRegion_166 namedWeight_166 turns_166 turnFrom_166 turnTo_166 turnWeight_166 balloons_166 room__166 pigeons_166 letters_166 weight_166 priority_166 now isSaved) → va_S A s.heap H locs → lv_has ls 1 [(0, .ref a0)] → W p l e ({ frames := 2, cells := 0, slots := 0, locals := 46 }) s m (([.ref a0] : List Value).toArray) below meth c H locs 0 0 Q (F0 m 166 ls [.int k1_166, .ref a0]) := by
    clear hf
    intro loftSize_166 regions_166 risk_166 distance_166 comesBack_166 winds_166 named_166 namedRegion_166 namedWeight_166 turns_166 turnFrom_166 turnTo_166 turnWeight_166 balloons_166 room__166 pigeons_166 letters_166 weight_166 priority_166 k1_166 hf H locs ls hP hD hS hl
    unfold f_X9_becomes_j166 at hf
    refine va_put (D := D) (ci := 9) (v := .int k1_166) (ty := .int) (C := RX9) (T := TX9) (N := 45) hx hb hts in_X9 tyX9 tyX9_ok nmX9 hown hK hP hD hS 0 rfl rfl 21 (by decide) lk_240 (fun _ h9 => h9) rfl (by decide +kernel) rfl rfl (Nat.le_of_ble_eq_true rfl) dX9_becomes_166 (fun H locs hP hD hS => ?_)
    have hP : va_P D vwCl (w_X9_becomes kc a0 a1 a2 a3 a4 a5 a6 a7 a8 a9 a10 a11 a12 a13 a14 a15 a16 a17 a18 a19 a20 a21 a22 a23 a24 a25 a26 a27 a28 thrown loftSize_166 k1_166 seed draftLoft draftStart draftSeed length textSize start next_ token value error errorAt number undos regions_166 risk_166 distance_166 comesBack_166 winds_166 named_166 namedRegion_166 namedWeight_166 turns_166 turnFrom_166 turnTo_166 turnWeight_166 balloons_166 room__166 pigeons_166 letters_166 weight_166 priority_166 now isSaved) H := hP
    have hD : va_D A (w_X9_becomes kc a0 a1 a2 a3 a4 a5 a6 a7 a8 a9 a10 a11 a12 a13 a14 a15 a16 a17 a18 a19 a20 a21 a22 a23 a24 a25 a26 a27 a28 thrown loftSize_166 k1_166 seed draftLoft draftStart draftSeed length textSize start next_ token value error errorAt number undos regions_166 risk_166 distance_166 comesBack_166 winds_166 named_166 namedRegion_166 namedWeight_166 turns_166 turnFrom_166 turnTo_166 turnWeight_166 balloons_166 room__166 pigeons_166 letters_166 weight_166 priority_166 now isSaved) := hD
    refine lv_aload_n hx hb dX9_becomes_169 rfl (lv_at hl 0 rfl) ?_
    refine lv_aload_n hx hb dX9_becomes_170 rfl (lv_at hl 0 rfl) ?_
    refine va_get (D := D) (ci := 9) (v := .int draftSeed) (C := RX9) (T := TX9) (N := 45) hx hb hts in_X9 hown hK hP 0 rfl rfl 25 (by decide) lk_194 (fun _ h9 => h9) rfl dX9_becomes_171 ?_
    refine lv_bipush (v := (-2)) hx hb dX9_becomes_174 (by decide) ?_
    refine lv_icmp_ne (tgt := 183) hx hb dX9_becomes_176 (by decide) (fun hc => ?_) (fun hc => ?_)
    · have hf := o_f hc hf
      refine lv_aload_n hx hb dX9_becomes_183 rfl (lv_at hl 0 rfl) ?_
      refine va_get (D := D) (ci := 9) (v := .int draftSeed) (C := RX9) (T := TX9) (N := 45) hx hb hts in_X9 hown hK hP 0 rfl rfl 25 (by decide) lk_194 (fun _ h9 => h9) rfl dX9_becomes_184 ?_
      refine va_put (D := D) (ci := 9) (v := .int draftSeed) (ty := .int) (C := RX9) (T := TX9) (N := 45) hx hb hts in_X9 tyX9 tyX9_ok nmX9 hown hK hP hD hS 0 rfl rfl 22 (by decide) lk_107 (fun _ h9 => h9) rfl (by decide +kernel) rfl rfl (Nat.le_of_ble_eq_true rfl) dX9_becomes_187 (fun H locs hP hD hS => ?_)
      have hP : va_P D vwCl (w_X9_becomes kc a0 a1 a2 a3 a4 a5 a6 a7 a8 a9 a10 a11 a12 a13 a14 a15 a16 a17 a18 a19 a20 a21 a22 a23 a24 a25 a26 a27 a28 thrown loftSize_166 k1_166 draftSeed draftLoft draftStart draftSeed length textSize start next_ token value error errorAt number undos regions_166 risk_166 distance_166 comesBack_166 winds_166 named_166 namedRegion_166 namedWeight_166 turns_166 turnFrom_166 turnTo_166 turnWeight_166 balloons_166 room__166 pigeons_166 letters_166 weight_166 priority_166 now isSaved) H := hP
      have hD : va_D A (w_X9_becomes kc a0 a1 a2 a3 a4 a5 a6 a7 a8 a9 a10 a11 a12 a13 a14 a15 a16 a17 a18 a19 a20 a21 a22 a23 a24 a25 a26 a27 a28 thrown loftSize_166 k1_166 draftSeed draftLoft draftStart draftSeed length textSize start next_ token value error errorAt number undos regions_166 risk_166 distance_166 comesBack_166 winds_166 named_166 namedRegion_166 namedWeight_166 turns_166 turnFrom_166 turnTo_166 turnWeight_166 balloons_166 room__166 pigeons_166 letters_166 weight_166 priority_166 now isSaved) := hD
      refine lv_aload_n hx hb dX9_becomes_190 rfl (lv_at hl 0 rfl) ?_
      obtain ⟨undos_19, now_20, isSaved_21, hc, hf⟩ := ob3_some hf
      refine g_VV (As := []) (rest := []) (ws' := (w_X9_becomes kc a0 a1 a2 a3 a4 a5 a6 a7 a8 a9 a10 a11 a12 a13 a14 a15 a16 a17 a18 a19 a20 a21 a22 a23 a24 a25 a26 a27 a28 thrown loftSize_166 k1_166 draftSeed draftLoft draftStart draftSeed length textSize start next_ token value error errorAt number undos_19 regions_166 risk_166 distance_166 comesBack_166 winds_166 named_166 namedRegion_166 namedWeight_166 turns_166 turnFrom_166 turnTo_166 turnWeight_166 balloons_166 room__166 pigeons_166 letters_166 weight_166 priority_166 now_20 isSaved_21)) ⟨hx, hb, hml, hown, hts⟩ hN hK hP hD hS hA (c_X9_begins l D kc N a0 a1 a2 a3 a4 a5 a6 a7 a8 a9 a10 a11 a12 a13 a14 a15 a16 a17 a18 a19 a20 a21 a22 a23 a24 a25 a26 a27 a28 thrown loftSize_166 k1_166 draftSeed draftLoft draftStart draftSeed length textSize start next_ token value error errorAt number undos now winds_166 isSaved undos_19 now_20 isSaved_21 hc) (cwV 0 hts gX9_becomes_X9_begins rfl rfl rfl (by decide +kernel) ⟨Nat.le_of_ble_eq_true rfl, Nat.le_of_ble_eq_true rfl⟩) [0, 19, 5, 20] [1, 2, 3, 4, 6, 7, 8, 9, 10, 11, 12, 13, 14, 15, 16, 17, 18] [17, 0, 1, 2, 3, 19, 4, 5, 6, 7, 8, 9, 10, 11, 12, 13, 14, 15, 16, 18, 20] (by exact ⟨rfl, rfl, by decide, rfl⟩) 0 9 rfl rfl rfl rfl hl.1 rfl (Nat.le_of_ble_eq_true rfl) dX9_becomes_191 ⟨Nat.le_refl _, Nat.le_refl _⟩ (fun H locs hP hD hS => ?_)
      cases hf
      exact kR _ _ _ _ hP hD hS dX9_becomes_194
    · have hf := o_t hc hf
      refine lv_iconst (v := 1) hx hb dX9_becomes_179 (by decide) ?_
      refine lv_goto (tgt := 187) hx hb dX9_becomes_180 (by decide) ?_
      refine va_put (D := D) (ci := 9) (v := .int 1) (ty := .int) (C := RX9) (T := TX9) (N := 45) hx hb hts in_X9 tyX9 tyX9_ok nmX9 hown hK hP hD hS 0 rfl rfl 22 (by decide) lk_107 (fun _ h9 => h9) rfl (by decide +kernel) rfl rfl (Nat.le_of_ble_eq_true rfl) dX9_becomes_187 (fun H locs hP hD hS => ?_)
      have hP : va_P D vwCl (w_X9_becomes kc a0 a1 a2 a3 a4 a5 a6 a7 a8 a9 a10 a11 a12 a13 a14 a15 a16 a17 a18 a19 a20 a21 a22 a23 a24 a25 a26 a27 a28 thrown loftSize_166 k1_166 1 draftLoft draftStart draftSeed length textSize start next_ token value error errorAt number undos regions_166 risk_166 distance_166 comesBack_166 winds_166 named_166 namedRegion_166 namedWeight_166 turns_166 turnFrom_166 turnTo_166 turnWeight_166 balloons_166 room__166 pigeons_166 letters_166 weight_166 priority_166 now isSaved) H := hP
      have hD : va_D A (w_X9_becomes kc a0 a1 a2 a3 a4 a5 a6 a7 a8 a9 a10 a11 a12 a13 a14 a15 a16 a17 a18 a19 a20 a21 a22 a23 a24 a25 a26 a27 a28 thrown loftSize_166 k1_166 1 draftLoft draftStart draftSeed length textSize start next_ token value error errorAt number undos regions_166 risk_166 distance_166 comesBack_166 winds_166 named_166 namedRegion_166 namedWeight_166 turns_166 turnFrom_166 turnTo_166 turnWeight_166 balloons_166 room__166 pigeons_166 letters_166 weight_166 priority_166 now isSaved) := hD
      refine lv_aload_n hx hb dX9_becomes_190 rfl (lv_at hl 0 rfl) ?_
      obtain ⟨undos_22, now_23, isSaved_24, hc, hf⟩ := ob3_some hf
      refine g_VV (As := []) (rest := []) (ws' := (w_X9_becomes kc a0 a1 a2 a3 a4 a5 a6 a7 a8 a9 a10 a11 a12 a13 a14 a15 a16 a17 a18 a19 a20 a21 a22 a23 a24 a25 a26 a27 a28 thrown loftSize_166 k1_166 1 draftLoft draftStart draftSeed length textSize start next_ token value error errorAt number undos_22 regions_166 risk_166 distance_166 comesBack_166 winds_166 named_166 namedRegion_166 namedWeight_166 turns_166 turnFrom_166 turnTo_166 turnWeight_166 balloons_166 room__166 pigeons_166 letters_166 weight_166 priority_166 now_23 isSaved_24)) ⟨hx, hb, hml, hown, hts⟩ hN hK hP hD hS hA (c_X9_begins l D kc N a0 a1 a2 a3 a4 a5 a6 a7 a8 a9 a10 a11 a12 a13 a14 a15 a16 a17 a18 a19 a20 a21 a22 a23 a24 a25 a26 a27 a28 thrown loftSize_166 k1_166 1 draftLoft draftStart draftSeed length textSize start next_ token value error errorAt number undos now winds_166 isSaved undos_22 now_23 isSaved_24 hc) (cwV 0 hts gX9_becomes_X9_begins rfl rfl rfl (by decide +kernel) ⟨Nat.le_of_ble_eq_true rfl, Nat.le_of_ble_eq_true rfl⟩) [0, 19, 5, 20] [1, 2, 3, 4, 6, 7, 8, 9, 10, 11, 12, 13, 14, 15, 16, 17, 18] [17, 0, 1, 2, 3, 19, 4, 5, 6, 7, 8, 9, 10, 11, 12, 13, 14, 15, 16, 18, 20] (by exact ⟨rfl, rfl, by decide, rfl⟩) 0 9 rfl rfl rfl rfl hl.1 rfl (Nat.le_of_ble_eq_true rfl) dX9_becomes_191 ⟨Nat.le_refl _, Nat.le_refl _⟩ (fun H locs hP hD hS => ?_)
      cases hf
      exact kR _ _ _ _ hP hD hS dX9_becomes_194
  have J145 : ∀ (regions_145 : Nat → Int32) (risk_145 : Nat → Int32) (distance_145 : Nat → Int32) (comesBack_145 : Nat → Int32) (winds_145 : Nat → Int32) (named_145 : Nat → Int32) (namedRegion_145 : Nat → Int32) (namedWeight_145 : Nat → Int32) (turns_145 : Nat → Int32) (turnFrom_145 : Nat → Int32) (turnTo_145 : Nat → Int32) (turnWeight_145 : Nat → Int32) (balloons_145 : Nat → Int32) (room__145 : Nat → Int32) (pigeons_145 : Nat → Int32) (letters_145 : Nat → Int32) (weight_145 : Nat → Int32) (priority_145 : Nat → Int32) (k1_145 : Int32), f_X9_becomes_j145 N draftStart draftSeed now isSaved regions_145 risk_145 distance_145 comesBack_145 winds_145 named_145 namedRegion_145 namedWeight_145 turns_145 turnFrom_145 turnTo_145 turnWeight_145 balloons_145 room__145 pigeons_145 letters_145 weight_145 priority_145 k1_145 = some (loftSize', startWind', seed', undos', regions', risk', distance', comesBack', winds', named', namedRegion', namedWeight', turns', turnFrom', turnTo', turnWeight', balloons', room_', pigeons', letters', weight', priority', now', isSaved') → ∀ (H : Heap) (locs : List Loc) (ls : Array Slot), va_P D vwCl (w_X9_becomes kc a0 a1 a2 a3 a4 a5 a6 a7 a8 a9 a10 a11 a12 a13 a14 a15 a16 a17 a18 a19 a20 a21 a22 a23 a24 a25 a26 a27 a28 thrown loftSize startWind seed draftLoft draftStart draftSeed length textSize start next_ token value error errorAt number undos regions_145 risk_145 distance_145 comesBack_145 winds_145 named_145 namedRegion_145 namedWeight_145 turns_145 turnFrom_145 turnTo_145 turnWeight_145 balloons_145 room__145 pigeons_145 letters_145 weight_145 priority_145 now isSaved) H → va_D A (w_X9_becomes kc a0 a1 a2 a3 a4 a5 a6 a7 a8 a9 a10 a11 a12 a13 a14 a15 a16 a17 a18 a19 a20 a21 a22 a23 a24 a25 a26 a27 a28 thrown loftSize startWind seed draftLoft draftStart draftSeed length textSize start next_ token value error errorAt number undos regions_145 risk_145 distance_145 comesBack_145 winds_145 named_145 namedRegion_145 namedWeight_145 turns_145 turnFrom_145 turnTo_145 turnWeight_145 balloons_145 room__145 pigeons_145 letters_145 weight_145 priority_145 now isSaved) → va_S A s.heap H locs → lv_has ls 1 [(0, .ref a0)] → W p l e ({ frames := 2, cells := 0, slots := 0, locals := 46 }) s m (([.ref a0] : List Value).toArray) below meth c H locs 0 0 Q (F0 m 145 ls [.int k1_145, .ref a0]) := by
    clear hf
    intro regions_145 risk_145 distance_145 comesBack_145 winds_145 named_145 namedRegion_145 namedWeight_145 turns_145 turnFrom_145 turnTo_145 turnWeight_145 balloons_145 room__145 pigeons_145 letters_145 weight_145 priority_145 k1_145 hf H locs ls hP hD hS hl
    unfold f_X9_becomes_j145 at hf
    refine va_put (D := D) (ci := 9) (v := .int k1_145) (ty := .int) (C := RX9) (T := TX9) (N := 45) hx hb hts in_X9 tyX9 tyX9_ok nmX9 hown hK hP hD hS 0 rfl rfl 20 (by decide) lk_104 (fun _ h9 => h9) rfl (by decide +kernel) rfl rfl (Nat.le_of_ble_eq_true rfl) dX9_becomes_145 (fun H locs hP hD hS => ?_)
    have hP : va_P D vwCl (w_X9_becomes kc a0 a1 a2 a3 a4 a5 a6 a7 a8 a9 a10 a11 a12 a13 a14 a15 a16 a17 a18 a19 a20 a21 a22 a23 a24 a25 a26 a27 a28 thrown k1_145 startWind seed draftLoft draftStart draftSeed length textSize start next_ token value error errorAt number undos regions_145 risk_145 distance_145 comesBack_145 winds_145 named_145 namedRegion_145 namedWeight_145 turns_145 turnFrom_145 turnTo_145 turnWeight_145 balloons_145 room__145 pigeons_145 letters_145 weight_145 priority_145 now isSaved) H := hP
    have hD : va_D A (w_X9_becomes kc a0 a1 a2 a3 a4 a5 a6 a7 a8 a9 a10 a11 a12 a13 a14 a15 a16 a17 a18 a19 a20 a21 a22 a23 a24 a25 a26 a27 a28 thrown k1_145 startWind seed draftLoft draftStart draftSeed length textSize start next_ token value error errorAt number undos regions_145 risk_145 distance_145 comesBack_145 winds_145 named_145 namedRegion_145 namedWeight_145 turns_145 turnFrom_145 turnTo_145 turnWeight_145 balloons_145 room__145 pigeons_145 letters_145 weight_145 priority_145 now isSaved) := hD
    refine lv_aload_n hx hb dX9_becomes_148 rfl (lv_at hl 0 rfl) ?_
    refine lv_aload_n hx hb dX9_becomes_149 rfl (lv_at hl 0 rfl) ?_
    refine va_get (D := D) (ci := 9) (v := .int draftStart) (C := RX9) (T := TX9) (N := 45) hx hb hts in_X9 hown hK hP 0 rfl rfl 24 (by decide) lk_190 (fun _ h9 => h9) rfl dX9_becomes_150 ?_
    refine lv_bipush (v := (-2)) hx hb dX9_becomes_153 (by decide) ?_
    refine lv_icmp_ne (tgt := 162) hx hb dX9_becomes_155 (by decide) (fun hc => ?_) (fun hc => ?_)
    · have hf := o_f hc hf
      refine lv_aload_n hx hb dX9_becomes_162 rfl (lv_at hl 0 rfl) ?_
      refine va_get (D := D) (ci := 9) (v := .int draftStart) (C := RX9) (T := TX9) (N := 45) hx hb hts in_X9 hown hK hP 0 rfl rfl 24 (by decide) lk_190 (fun _ h9 => h9) rfl dX9_becomes_163 ?_
      exact J166 _ _ _ _ _ _ _ _ _ _ _ _ _ _ _ _ _ _ _ _ hf _ _ _ hP hD hS (lv_sub hl [0] rfl)
    · have hf := o_t hc hf
      refine lv_iconst (v := 0) hx hb dX9_becomes_158 (by decide) ?_
      refine lv_goto (tgt := 166) hx hb dX9_becomes_159 (by decide) ?_
      exact J166 _ _ _ _ _ _ _ _ _ _ _ _ _ _ _ _ _ _ _ _ hf _ _ _ hP hD hS (lv_sub hl [0] rfl)
  unfold f_X9_becomes at hf
  refine lv_aload_n hx hb dX9_becomes_0 rfl (lv_at hl 0 rfl) ?_
  refine va_get (D := D) (ci := 9) (v := .ref a2) (C := RX9) (T := TX9) (N := 45) hx hb hts in_X9 hown hK hP 0 rfl rfl 2 (by decide) lk_17 (fun _ h9 => h9) rfl dX9_becomes_1 ?_
  obtain ⟨regions_1, hc, hf⟩ := ob1_some hf
  refine g_SV (As := [.ref a2]) (rest := []) (ws' := (w_X9_becomes kc a0 a1 a2 a3 a4 a5 a6 a7 a8 a9 a10 a11 a12 a13 a14 a15 a16 a17 a18 a19 a20 a21 a22 a23 a24 a25 a26 a27 a28 thrown loftSize startWind seed draftLoft draftStart draftSeed length textSize start next_ token value error errorAt number undos regions_1 risk distance comesBack winds named namedRegion namedWeight turns turnFrom turnTo turnWeight balloons room_ pigeons letters weight priority now isSaved)) ⟨hx, hb, hml, hown, hts⟩ hN hK hP hD hS hA (c_X9_lifts l D kc N a2 2 regions regions_1 hc) (va_cwS 1 hts gX9_becomes_X9_lifts rfl rfl rfl (by decide +kernel) ⟨Nat.le_of_ble_eq_true rfl, Nat.le_of_ble_eq_true rfl⟩) [1] [0, 2, 3, 4, 5, 6, 7, 8, 9, 10, 11, 12, 13, 14, 15, 16, 17, 18, 19, 20] [0, 20, 1, 2, 3, 4, 5, 6, 7, 8, 9, 10, 11, 12, 13, 14, 15, 16, 17, 18, 19] (by exact ⟨rfl, rfl, by decide, rfl⟩) rfl hl.1 rfl (Nat.le_of_ble_eq_true rfl) dX9_becomes_4 ⟨Nat.le_refl _, Nat.le_refl _⟩ (fun H locs hP hD hS => ?_)
  refine lv_aload_n hx hb dX9_becomes_7 rfl (lv_at hl 0 rfl) ?_
  refine va_get (D := D) (ci := 9) (v := .ref a3) (C := RX9) (T := TX9) (N := 45) hx hb hts in_X9 hown hK hP 0 rfl rfl 3 (by decide) lk_20 (fun _ h9 => h9) rfl dX9_becomes_8 ?_
  obtain ⟨risk_2, hc, hf⟩ := ob1_some hf
  refine g_SV (As := [.ref a3]) (rest := []) (ws' := (w_X9_becomes kc a0 a1 a2 a3 a4 a5 a6 a7 a8 a9 a10 a11 a12 a13 a14 a15 a16 a17 a18 a19 a20 a21 a22 a23 a24 a25 a26 a27 a28 thrown loftSize startWind seed draftLoft draftStart draftSeed length textSize start next_ token value error errorAt number undos regions_1 risk_2 distance comesBack winds named namedRegion namedWeight turns turnFrom turnTo turnWeight balloons room_ pigeons letters weight priority now isSaved)) ⟨hx, hb, hml, hown, hts⟩ hN hK hP hD hS hA (c_X9_lifts l D kc N a3 16 risk risk_2 hc) (va_cwS 1 hts gX9_becomes_X9_lifts rfl rfl rfl (by decide +kernel) ⟨Nat.le_of_ble_eq_true rfl, Nat.le_of_ble_eq_true rfl⟩) [2] [0, 1, 3, 4, 5, 6, 7, 8, 9, 10, 11, 12, 13, 14, 15, 16, 17, 18, 19, 20] [0, 1, 20, 2, 3, 4, 5, 6, 7, 8, 9, 10, 11, 12, 13, 14, 15, 16, 17, 18, 19] (by exact ⟨rfl, rfl, by decide, rfl⟩) rfl hl.1 rfl (Nat.le_of_ble_eq_true rfl) dX9_becomes_11 ⟨Nat.le_refl _, Nat.le_refl _⟩ (fun H locs hP hD hS => ?_)
  refine lv_aload_n hx hb dX9_becomes_14 rfl (lv_at hl 0 rfl) ?_
  refine va_get (D := D) (ci := 9) (v := .ref a4) (C := RX9) (T := TX9) (N := 45) hx hb hts in_X9 hown hK hP 0 rfl rfl 4 (by decide) lk_23 (fun _ h9 => h9) rfl dX9_becomes_15 ?_
  obtain ⟨distance_3, hc, hf⟩ := ob1_some hf
  refine g_SV (As := [.ref a4]) (rest := []) (ws' := (w_X9_becomes kc a0 a1 a2 a3 a4 a5 a6 a7 a8 a9 a10 a11 a12 a13 a14 a15 a16 a17 a18 a19 a20 a21 a22 a23 a24 a25 a26 a27 a28 thrown loftSize startWind seed draftLoft draftStart draftSeed length textSize start next_ token value error errorAt number undos regions_1 risk_2 distance_3 comesBack winds named namedRegion namedWeight turns turnFrom turnTo turnWeight balloons room_ pigeons letters weight priority now isSaved)) ⟨hx, hb, hml, hown, hts⟩ hN hK hP hD hS hA (c_X9_lifts l D kc N a4 16 distance distance_3 hc) (va_cwS 1 hts gX9_becomes_X9_lifts rfl rfl rfl (by decide +kernel) ⟨Nat.le_of_ble_eq_true rfl, Nat.le_of_ble_eq_true rfl⟩) [3] [0, 1, 2, 4, 5, 6, 7, 8, 9, 10, 11, 12, 13, 14, 15, 16, 17, 18, 19, 20] [0, 1, 2, 20, 3, 4, 5, 6, 7, 8, 9, 10, 11, 12, 13, 14, 15, 16, 17, 18, 19] (by exact ⟨rfl, rfl, by decide, rfl⟩) rfl hl.1 rfl (Nat.le_of_ble_eq_true rfl) dX9_becomes_18 ⟨Nat.le_refl _, Nat.le_refl _⟩ (fun H locs hP hD hS => ?_)
  refine lv_aload_n hx hb dX9_becomes_21 rfl (lv_at hl 0 rfl) ?_
  refine va_get (D := D) (ci := 9) (v := .ref a5) (C := RX9) (T := TX9) (N := 45) hx hb hts in_X9 hown hK hP 0 rfl rfl 5 (by decide) lk_26 (fun _ h9 => h9) rfl dX9_becomes_22 ?_
  obtain ⟨comesBack_4, hc, hf⟩ := ob1_some hf
  refine g_SV (As := [.ref a5]) (rest := []) (ws' := (w_X9_becomes kc a0 a1 a2 a3 a4 a5 a6 a7 a8 a9 a10 a11 a12 a13 a14 a15 a16 a17 a18 a19 a20 a21 a22 a23 a24 a25 a26 a27 a28 thrown loftSize startWind seed draftLoft draftStart draftSeed length textSize start next_ token value error errorAt number undos regions_1 risk_2 distance_3 comesBack_4 winds named namedRegion namedWeight turns turnFrom turnTo turnWeight balloons room_ pigeons letters weight priority now isSaved)) ⟨hx, hb, hml, hown, hts⟩ hN hK hP hD hS hA (c_X9_lifts l D kc N a5 16 comesBack comesBack_4 hc) (va_cwS 1 hts gX9_becomes_X9_lifts rfl rfl rfl (by decide +kernel) ⟨Nat.le_of_ble_eq_true rfl, Nat.le_of_ble_eq_true rfl⟩) [4] [0, 1, 2, 3, 5, 6, 7, 8, 9, 10, 11, 12, 13, 14, 15, 16, 17, 18, 19, 20] [0, 1, 2, 3, 20, 4, 5, 6, 7, 8, 9, 10, 11, 12, 13, 14, 15, 16, 17, 18, 19] (by exact ⟨rfl, rfl, by decide, rfl⟩) rfl hl.1 rfl (Nat.le_of_ble_eq_true rfl) dX9_becomes_25 ⟨Nat.le_refl _, Nat.le_refl _⟩ (fun H locs hP hD hS => ?_)
  refine lv_aload_n hx hb dX9_becomes_28 rfl (lv_at hl 0 rfl) ?_
  refine va_get (D := D) (ci := 9) (v := .ref a6) (C := RX9) (T := TX9) (N := 45) hx hb hts in_X9 hown hK hP 0 rfl rfl 6 (by decide) lk_29 (fun _ h9 => h9) rfl dX9_becomes_29 ?_
  obtain ⟨winds_5, hc, hf⟩ := ob1_some hf
  refine g_SV (As := [.ref a6]) (rest := []) (ws' := (w_X9_becomes kc a0 a1 a2 a3 a4 a5 a6 a7 a8 a9 a10 a11 a12 a13 a14 a15 a16 a17 a18 a19 a20 a21 a22 a23 a24 a25 a26 a27 a28 thrown loftSize startWind seed draftLoft draftStart draftSeed length textSize start next_ token value error errorAt number undos regions_1 risk_2 distance_3 comesBack_4 winds_5 named namedRegion namedWeight turns turnFrom turnTo turnWeight balloons room_ pigeons letters weight priority now isSaved)) ⟨hx, hb, hml, hown, hts⟩ hN hK hP hD hS hA (c_X9_lifts l D kc N a6 2 winds winds_5 hc) (va_cwS 1 hts gX9_becomes_X9_lifts rfl rfl rfl (by decide +kernel) ⟨Nat.le_of_ble_eq_true rfl, Nat.le_of_ble_eq_true rfl⟩) [5] [0, 1, 2, 3, 4, 6, 7, 8, 9, 10, 11, 12, 13, 14, 15, 16, 17, 18, 19, 20] [0, 1, 2, 3, 4, 20, 5, 6, 7, 8, 9, 10, 11, 12, 13, 14, 15, 16, 17, 18, 19] (by exact ⟨rfl, rfl, by decide, rfl⟩) rfl hl.1 rfl (Nat.le_of_ble_eq_true rfl) dX9_becomes_32 ⟨Nat.le_refl _, Nat.le_refl _⟩ (fun H locs hP hD hS => ?_)
  refine lv_aload_n hx hb dX9_becomes_35 rfl (lv_at hl 0 rfl) ?_
  refine va_get (D := D) (ci := 9) (v := .ref a7) (C := RX9) (T := TX9) (N := 45) hx hb hts in_X9 hown hK hP 0 rfl rfl 7 (by decide) lk_32 (fun _ h9 => h9) rfl dX9_becomes_36 ?_
  obtain ⟨named_6, hc, hf⟩ := ob1_some hf
  refine g_SV (As := [.ref a7]) (rest := []) (ws' := (w_X9_becomes kc a0 a1 a2 a3 a4 a5 a6 a7 a8 a9 a10 a11 a12 a13 a14 a15 a16 a17 a18 a19 a20 a21 a22 a23 a24 a25 a26 a27 a28 thrown loftSize startWind seed draftLoft draftStart draftSeed length textSize start next_ token value error errorAt number undos regions_1 risk_2 distance_3 comesBack_4 winds_5 named_6 namedRegion namedWeight turns turnFrom turnTo turnWeight balloons room_ pigeons letters weight priority now isSaved)) ⟨hx, hb, hml, hown, hts⟩ hN hK hP hD hS hA (c_X9_lifts l D kc N a7 12 named named_6 hc) (va_cwS 1 hts gX9_becomes_X9_lifts rfl rfl rfl (by decide +kernel) ⟨Nat.le_of_ble_eq_true rfl, Nat.le_of_ble_eq_true rfl⟩) [6] [0, 1, 2, 3, 4, 5, 7, 8, 9, 10, 11, 12, 13, 14, 15, 16, 17, 18, 19, 20] [0, 1, 2, 3, 4, 5, 20, 6, 7, 8, 9, 10, 11, 12, 13, 14, 15, 16, 17, 18, 19] (by exact ⟨rfl, rfl, by decide, rfl⟩) rfl hl.1 rfl (Nat.le_of_ble_eq_true rfl) dX9_becomes_39 ⟨Nat.le_refl _, Nat.le_refl _⟩ (fun H locs hP hD hS => ?_)
  refine lv_aload_n hx hb dX9_becomes_42 rfl (lv_at hl 0 rfl) ?_
  refine va_get (D := D) (ci := 9) (v := .ref a8) (C := RX9) (T := TX9) (N := 45) hx hb hts in_X9 hown hK hP 0 rfl rfl 8 (by decide) lk_35 (fun _ h9 => h9) rfl dX9_becomes_43 ?_
  obtain ⟨namedRegion_7, hc, hf⟩ := ob1_some hf
  refine g_SV (As := [.ref a8]) (rest := []) (ws' := (w_X9_becomes kc a0 a1 a2 a3 a4 a5 a6 a7 a8 a9 a10 a11 a12 a13 a14 a15 a16 a17 a18 a19 a20 a21 a22 a23 a24 a25 a26 a27 a28 thrown loftSize startWind seed draftLoft draftStart draftSeed length textSize start next_ token value error errorAt number undos regions_1 risk_2 distance_3 comesBack_4 winds_5 named_6 namedRegion_7 namedWeight turns turnFrom turnTo turnWeight balloons room_ pigeons letters weight priority now isSaved)) ⟨hx, hb, hml, hown, hts⟩ hN hK hP hD hS hA (c_X9_lifts l D kc N a8 96 namedRegion namedRegion_7 hc) (va_cwS 1 hts gX9_becomes_X9_lifts rfl rfl rfl (by decide +kernel) ⟨Nat.le_of_ble_eq_true rfl, Nat.le_of_ble_eq_true rfl⟩) [7] [0, 1, 2, 3, 4, 5, 6, 8, 9, 10, 11, 12, 13, 14, 15, 16, 17, 18, 19, 20] [0, 1, 2, 3, 4, 5, 6, 20, 7, 8, 9, 10, 11, 12, 13, 14, 15, 16, 17, 18, 19] (by exact ⟨rfl, rfl, by decide, rfl⟩) rfl hl.1 rfl (Nat.le_of_ble_eq_true rfl) dX9_becomes_46 ⟨Nat.le_refl _, Nat.le_refl _⟩ (fun H locs hP hD hS => ?_)
  refine lv_aload_n hx hb dX9_becomes_49 rfl (lv_at hl 0 rfl) ?_
  refine va_get (D := D) (ci := 9) (v := .ref a9) (C := RX9) (T := TX9) (N := 45) hx hb hts in_X9 hown hK hP 0 rfl rfl 9 (by decide) lk_38 (fun _ h9 => h9) rfl dX9_becomes_50 ?_
  obtain ⟨namedWeight_8, hc, hf⟩ := ob1_some hf
  refine g_SV (As := [.ref a9]) (rest := []) (ws' := (w_X9_becomes kc a0 a1 a2 a3 a4 a5 a6 a7 a8 a9 a10 a11 a12 a13 a14 a15 a16 a17 a18 a19 a20 a21 a22 a23 a24 a25 a26 a27 a28 thrown loftSize startWind seed draftLoft draftStart draftSeed length textSize start next_ token value error errorAt number undos regions_1 risk_2 distance_3 comesBack_4 winds_5 named_6 namedRegion_7 namedWeight_8 turns turnFrom turnTo turnWeight balloons room_ pigeons letters weight priority now isSaved)) ⟨hx, hb, hml, hown, hts⟩ hN hK hP hD hS hA (c_X9_lifts l D kc N a9 96 namedWeight namedWeight_8 hc) (va_cwS 1 hts gX9_becomes_X9_lifts rfl rfl rfl (by decide +kernel) ⟨Nat.le_of_ble_eq_true rfl, Nat.le_of_ble_eq_true rfl⟩) [8] [0, 1, 2, 3, 4, 5, 6, 7, 9, 10, 11, 12, 13, 14, 15, 16, 17, 18, 19, 20] [0, 1, 2, 3, 4, 5, 6, 7, 20, 8, 9, 10, 11, 12, 13, 14, 15, 16, 17, 18, 19] (by exact ⟨rfl, rfl, by decide, rfl⟩) rfl hl.1 rfl (Nat.le_of_ble_eq_true rfl) dX9_becomes_53 ⟨Nat.le_refl _, Nat.le_refl _⟩ (fun H locs hP hD hS => ?_)
  refine lv_aload_n hx hb dX9_becomes_56 rfl (lv_at hl 0 rfl) ?_
  refine va_get (D := D) (ci := 9) (v := .ref a10) (C := RX9) (T := TX9) (N := 45) hx hb hts in_X9 hown hK hP 0 rfl rfl 10 (by decide) lk_41 (fun _ h9 => h9) rfl dX9_becomes_57 ?_
  obtain ⟨turns_9, hc, hf⟩ := ob1_some hf
  refine g_SV (As := [.ref a10]) (rest := []) (ws' := (w_X9_becomes kc a0 a1 a2 a3 a4 a5 a6 a7 a8 a9 a10 a11 a12 a13 a14 a15 a16 a17 a18 a19 a20 a21 a22 a23 a24 a25 a26 a27 a28 thrown loftSize startWind seed draftLoft draftStart draftSeed length textSize start next_ token value error errorAt number undos regions_1 risk_2 distance_3 comesBack_4 winds_5 named_6 namedRegion_7 namedWeight_8 turns_9 turnFrom turnTo turnWeight balloons room_ pigeons letters weight priority now isSaved)) ⟨hx, hb, hml, hown, hts⟩ hN hK hP hD hS hA (c_X9_lifts l D kc N a10 2 turns turns_9 hc) (va_cwS 1 hts gX9_becomes_X9_lifts rfl rfl rfl (by decide +kernel) ⟨Nat.le_of_ble_eq_true rfl, Nat.le_of_ble_eq_true rfl⟩) [9] [0, 1, 2, 3, 4, 5, 6, 7, 8, 10, 11, 12, 13, 14, 15, 16, 17, 18, 19, 20] [0, 1, 2, 3, 4, 5, 6, 7, 8, 20, 9, 10, 11, 12, 13, 14, 15, 16, 17, 18, 19] (by exact ⟨rfl, rfl, by decide, rfl⟩) rfl hl.1 rfl (Nat.le_of_ble_eq_true rfl) dX9_becomes_60 ⟨Nat.le_refl _, Nat.le_refl _⟩ (fun H locs hP hD hS => ?_)
  refine lv_aload_n hx hb dX9_becomes_63 rfl (lv_at hl 0 rfl) ?_
  refine va_get (D := D) (ci := 9) (v := .ref a11) (C := RX9) (T := TX9) (N := 45) hx hb hts in_X9 hown hK hP 0 rfl rfl 11 (by decide) lk_44 (fun _ h9 => h9) rfl dX9_becomes_64 ?_
  obtain ⟨turnFrom_10, hc, hf⟩ := ob1_some hf
  refine g_SV (As := [.ref a11]) (rest := []) (ws' := (w_X9_becomes kc a0 a1 a2 a3 a4 a5 a6 a7 a8 a9 a10 a11 a12 a13 a14 a15 a16 a17 a18 a19 a20 a21 a22 a23 a24 a25 a26 a27 a28 thrown loftSize startWind seed draftLoft draftStart draftSeed length textSize start next_ token value error errorAt number undos regions_1 risk_2 distance_3 comesBack_4 winds_5 named_6 namedRegion_7 namedWeight_8 turns_9 turnFrom_10 turnTo turnWeight balloons room_ pigeons letters weight priority now isSaved)) ⟨hx, hb, hml, hown, hts⟩ hN hK hP hD hS hA (c_X9_lifts l D kc N a11 60 turnFrom turnFrom_10 hc) (va_cwS 1 hts gX9_becomes_X9_lifts rfl rfl rfl (by decide +kernel) ⟨Nat.le_of_ble_eq_true rfl, Nat.le_of_ble_eq_true rfl⟩) [10] [0, 1, 2, 3, 4, 5, 6, 7, 8, 9, 11, 12, 13, 14, 15, 16, 17, 18, 19, 20] [0, 1, 2, 3, 4, 5, 6, 7, 8, 9, 20, 10, 11, 12, 13, 14, 15, 16, 17, 18, 19] (by exact ⟨rfl, rfl, by decide, rfl⟩) rfl hl.1 rfl (Nat.le_of_ble_eq_true rfl) dX9_becomes_67 ⟨Nat.le_refl _, Nat.le_refl _⟩ (fun H locs hP hD hS => ?_)
  refine lv_aload_n hx hb dX9_becomes_70 rfl (lv_at hl 0 rfl) ?_
  refine va_get (D := D) (ci := 9) (v := .ref a12) (C := RX9) (T := TX9) (N := 45) hx hb hts in_X9 hown hK hP 0 rfl rfl 12 (by decide) lk_47 (fun _ h9 => h9) rfl dX9_becomes_71 ?_
  obtain ⟨turnTo_11, hc, hf⟩ := ob1_some hf
  refine g_SV (As := [.ref a12]) (rest := []) (ws' := (w_X9_becomes kc a0 a1 a2 a3 a4 a5 a6 a7 a8 a9 a10 a11 a12 a13 a14 a15 a16 a17 a18 a19 a20 a21 a22 a23 a24 a25 a26 a27 a28 thrown loftSize startWind seed draftLoft draftStart draftSeed length textSize start next_ token value error errorAt number undos regions_1 risk_2 distance_3 comesBack_4 winds_5 named_6 namedRegion_7 namedWeight_8 turns_9 turnFrom_10 turnTo_11 turnWeight balloons room_ pigeons letters weight priority now isSaved)) ⟨hx, hb, hml, hown, hts⟩ hN hK hP hD hS hA (c_X9_lifts l D kc N a12 60 turnTo turnTo_11 hc) (va_cwS 1 hts gX9_becomes_X9_lifts rfl rfl rfl (by decide +kernel) ⟨Nat.le_of_ble_eq_true rfl, Nat.le_of_ble_eq_true rfl⟩) [11] [0, 1, 2, 3, 4, 5, 6, 7, 8, 9, 10, 12, 13, 14, 15, 16, 17, 18, 19, 20] [0, 1, 2, 3, 4, 5, 6, 7, 8, 9, 10, 20, 11, 12, 13, 14, 15, 16, 17, 18, 19] (by exact ⟨rfl, rfl, by decide, rfl⟩) rfl hl.1 rfl (Nat.le_of_ble_eq_true rfl) dX9_becomes_74 ⟨Nat.le_refl _, Nat.le_refl _⟩ (fun H locs hP hD hS => ?_)
  refine lv_aload_n hx hb dX9_becomes_77 rfl (lv_at hl 0 rfl) ?_
  refine va_get (D := D) (ci := 9) (v := .ref a13) (C := RX9) (T := TX9) (N := 45) hx hb hts in_X9 hown hK hP 0 rfl rfl 13 (by decide) lk_50 (fun _ h9 => h9) rfl dX9_becomes_78 ?_
  obtain ⟨turnWeight_12, hc, hf⟩ := ob1_some hf
  refine g_SV (As := [.ref a13]) (rest := []) (ws' := (w_X9_becomes kc a0 a1 a2 a3 a4 a5 a6 a7 a8 a9 a10 a11 a12 a13 a14 a15 a16 a17 a18 a19 a20 a21 a22 a23 a24 a25 a26 a27 a28 thrown loftSize startWind seed draftLoft draftStart draftSeed length textSize start next_ token value error errorAt number undos regions_1 risk_2 distance_3 comesBack_4 winds_5 named_6 namedRegion_7 namedWeight_8 turns_9 turnFrom_10 turnTo_11 turnWeight_12 balloons room_ pigeons letters weight priority now isSaved)) ⟨hx, hb, hml, hown, hts⟩ hN hK hP hD hS hA (c_X9_lifts l D kc N a13 60 turnWeight turnWeight_12 hc) (va_cwS 1 hts gX9_becomes_X9_lifts rfl rfl rfl (by decide +kernel) ⟨Nat.le_of_ble_eq_true rfl, Nat.le_of_ble_eq_true rfl⟩) [12] [0, 1, 2, 3, 4, 5, 6, 7, 8, 9, 10, 11, 13, 14, 15, 16, 17, 18, 19, 20] [0, 1, 2, 3, 4, 5, 6, 7, 8, 9, 10, 11, 20, 12, 13, 14, 15, 16, 17, 18, 19] (by exact ⟨rfl, rfl, by decide, rfl⟩) rfl hl.1 rfl (Nat.le_of_ble_eq_true rfl) dX9_becomes_81 ⟨Nat.le_refl _, Nat.le_refl _⟩ (fun H locs hP hD hS => ?_)
  refine lv_aload_n hx hb dX9_becomes_84 rfl (lv_at hl 0 rfl) ?_
  refine va_get (D := D) (ci := 9) (v := .ref a14) (C := RX9) (T := TX9) (N := 45) hx hb hts in_X9 hown hK hP 0 rfl rfl 14 (by decide) lk_53 (fun _ h9 => h9) rfl dX9_becomes_85 ?_
  obtain ⟨balloons_13, hc, hf⟩ := ob1_some hf
  refine g_SV (As := [.ref a14]) (rest := []) (ws' := (w_X9_becomes kc a0 a1 a2 a3 a4 a5 a6 a7 a8 a9 a10 a11 a12 a13 a14 a15 a16 a17 a18 a19 a20 a21 a22 a23 a24 a25 a26 a27 a28 thrown loftSize startWind seed draftLoft draftStart draftSeed length textSize start next_ token value error errorAt number undos regions_1 risk_2 distance_3 comesBack_4 winds_5 named_6 namedRegion_7 namedWeight_8 turns_9 turnFrom_10 turnTo_11 turnWeight_12 balloons_13 room_ pigeons letters weight priority now isSaved)) ⟨hx, hb, hml, hown, hts⟩ hN hK hP hD hS hA (c_X9_lifts l D kc N a14 2 balloons balloons_13 hc) (va_cwS 1 hts gX9_becomes_X9_lifts rfl rfl rfl (by decide +kernel) ⟨Nat.le_of_ble_eq_true rfl, Nat.le_of_ble_eq_true rfl⟩) [13] [0, 1, 2, 3, 4, 5, 6, 7, 8, 9, 10, 11, 12, 14, 15, 16, 17, 18, 19, 20] [0, 1, 2, 3, 4, 5, 6, 7, 8, 9, 10, 11, 12, 20, 13, 14, 15, 16, 17, 18, 19] (by exact ⟨rfl, rfl, by decide, rfl⟩) rfl hl.1 rfl (Nat.le_of_ble_eq_true rfl) dX9_becomes_88 ⟨Nat.le_refl _, Nat.le_refl _⟩ (fun H locs hP hD hS => ?_)
  refine lv_aload_n hx hb dX9_becomes_91 rfl (lv_at hl 0 rfl) ?_
  refine va_get (D := D) (ci := 9) (v := .ref a15) (C := RX9) (T := TX9) (N := 45) hx hb hts in_X9 hown hK hP 0 rfl rfl 15 (by decide) lk_56 (fun _ h9 => h9) rfl dX9_becomes_92 ?_
  obtain ⟨room__14, hc, hf⟩ := ob1_some hf
  refine g_SV (As := [.ref a15]) (rest := []) (ws' := (w_X9_becomes kc a0 a1 a2 a3 a4 a5 a6 a7 a8 a9 a10 a11 a12 a13 a14 a15 a16 a17 a18 a19 a20 a21 a22 a23 a24 a25 a26 a27 a28 thrown loftSize startWind seed draftLoft draftStart draftSeed length textSize start next_ token value error errorAt number undos regions_1 risk_2 distance_3 comesBack_4 winds_5 named_6 namedRegion_7 namedWeight_8 turns_9 turnFrom_10 turnTo_11 turnWeight_12 balloons_13 room__14 pigeons letters weight priority now isSaved)) ⟨hx, hb, hml, hown, hts⟩ hN hK hP hD hS hA (c_X9_lifts l D kc N a15 20 room_ room__14 hc) (va_cwS 1 hts gX9_becomes_X9_lifts rfl rfl rfl (by decide +kernel) ⟨Nat.le_of_ble_eq_true rfl, Nat.le_of_ble_eq_true rfl⟩) [14] [0, 1, 2, 3, 4, 5, 6, 7, 8, 9, 10, 11, 12, 13, 15, 16, 17, 18, 19, 20] [0, 1, 2, 3, 4, 5, 6, 7, 8, 9, 10, 11, 12, 13, 20, 14, 15, 16, 17, 18, 19] (by exact ⟨rfl, rfl, by decide, rfl⟩) rfl hl.1 rfl (Nat.le_of_ble_eq_true rfl) dX9_becomes_95 ⟨Nat.le_refl _, Nat.le_refl _⟩ (fun H locs hP hD hS => ?_)
  refine lv_aload_n hx hb dX9_becomes_98 rfl (lv_at hl 0 rfl) ?_
  refine va_get (D := D) (ci := 9) (v := .ref a16) (C := RX9) (T := TX9) (N := 45) hx hb hts in_X9 hown hK hP 0 rfl rfl 16 (by decide) lk_59 (fun _ h9 => h9) rfl dX9_becomes_99 ?_
  obtain ⟨pigeons_15, hc, hf⟩ := ob1_some hf
  refine g_SV (As := [.ref a16]) (rest := []) (ws' := (w_X9_becomes kc a0 a1 a2 a3 a4 a5 a6 a7 a8 a9 a10 a11 a12 a13 a14 a15 a16 a17 a18 a19 a20 a21 a22 a23 a24 a25 a26 a27 a28 thrown loftSize startWind seed draftLoft draftStart draftSeed length textSize start next_ token value error errorAt number undos regions_1 risk_2 distance_3 comesBack_4 winds_5 named_6 namedRegion_7 namedWeight_8 turns_9 turnFrom_10 turnTo_11 turnWeight_12 balloons_13 room__14 pigeons_15 letters weight priority now isSaved)) ⟨hx, hb, hml, hown, hts⟩ hN hK hP hD hS hA (c_X9_lifts l D kc N a16 20 pigeons pigeons_15 hc) (va_cwS 1 hts gX9_becomes_X9_lifts rfl rfl rfl (by decide +kernel) ⟨Nat.le_of_ble_eq_true rfl, Nat.le_of_ble_eq_true rfl⟩) [15] [0, 1, 2, 3, 4, 5, 6, 7, 8, 9, 10, 11, 12, 13, 14, 16, 17, 18, 19, 20] [0, 1, 2, 3, 4, 5, 6, 7, 8, 9, 10, 11, 12, 13, 14, 20, 15, 16, 17, 18, 19] (by exact ⟨rfl, rfl, by decide, rfl⟩) rfl hl.1 rfl (Nat.le_of_ble_eq_true rfl) dX9_becomes_102 ⟨Nat.le_refl _, Nat.le_refl _⟩ (fun H locs hP hD hS => ?_)
  refine lv_aload_n hx hb dX9_becomes_105 rfl (lv_at hl 0 rfl) ?_
  refine va_get (D := D) (ci := 9) (v := .ref a17) (C := RX9) (T := TX9) (N := 45) hx hb hts in_X9 hown hK hP 0 rfl rfl 17 (by decide) lk_62 (fun _ h9 => h9) rfl dX9_becomes_106 ?_
  obtain ⟨letters_16, hc, hf⟩ := ob1_some hf
  refine g_SV (As := [.ref a17]) (rest := []) (ws' := (w_X9_becomes kc a0 a1 a2 a3 a4 a5 a6 a7 a8 a9 a10 a11 a12 a13 a14 a15 a16 a17 a18 a19 a20 a21 a22 a23 a24 a25 a26 a27 a28 thrown loftSize startWind seed draftLoft draftStart draftSeed length textSize start next_ token value error errorAt number undos regions_1 risk_2 distance_3 comesBack_4 winds_5 named_6 namedRegion_7 namedWeight_8 turns_9 turnFrom_10 turnTo_11 turnWeight_12 balloons_13 room__14 pigeons_15 letters_16 weight priority now isSaved)) ⟨hx, hb, hml, hown, hts⟩ hN hK hP hD hS hA (c_X9_lifts l D kc N a17 2 letters letters_16 hc) (va_cwS 1 hts gX9_becomes_X9_lifts rfl rfl rfl (by decide +kernel) ⟨Nat.le_of_ble_eq_true rfl, Nat.le_of_ble_eq_true rfl⟩) [16] [0, 1, 2, 3, 4, 5, 6, 7, 8, 9, 10, 11, 12, 13, 14, 15, 17, 18, 19, 20] [0, 1, 2, 3, 4, 5, 6, 7, 8, 9, 10, 11, 12, 13, 14, 15, 20, 16, 17, 18, 19] (by exact ⟨rfl, rfl, by decide, rfl⟩) rfl hl.1 rfl (Nat.le_of_ble_eq_true rfl) dX9_becomes_109 ⟨Nat.le_refl _, Nat.le_refl _⟩ (fun H locs hP hD hS => ?_)
  refine lv_aload_n hx hb dX9_becomes_112 rfl (lv_at hl 0 rfl) ?_
  refine va_get (D := D) (ci := 9) (v := .ref a18) (C := RX9) (T := TX9) (N := 45) hx hb hts in_X9 hown hK hP 0 rfl rfl 18 (by decide) lk_65 (fun _ h9 => h9) rfl dX9_becomes_113 ?_
  obtain ⟨weight_17, hc, hf⟩ := ob1_some hf
  refine g_SV (As := [.ref a18]) (rest := []) (ws' := (w_X9_becomes kc a0 a1 a2 a3 a4 a5 a6 a7 a8 a9 a10 a11 a12 a13 a14 a15 a16 a17 a18 a19 a20 a21 a22 a23 a24 a25 a26 a27 a28 thrown loftSize startWind seed draftLoft draftStart draftSeed length textSize start next_ token value error errorAt number undos regions_1 risk_2 distance_3 comesBack_4 winds_5 named_6 namedRegion_7 namedWeight_8 turns_9 turnFrom_10 turnTo_11 turnWeight_12 balloons_13 room__14 pigeons_15 letters_16 weight_17 priority now isSaved)) ⟨hx, hb, hml, hown, hts⟩ hN hK hP hD hS hA (c_X9_lifts l D kc N a18 48 weight weight_17 hc) (va_cwS 1 hts gX9_becomes_X9_lifts rfl rfl rfl (by decide +kernel) ⟨Nat.le_of_ble_eq_true rfl, Nat.le_of_ble_eq_true rfl⟩) [17] [0, 1, 2, 3, 4, 5, 6, 7, 8, 9, 10, 11, 12, 13, 14, 15, 16, 18, 19, 20] [0, 1, 2, 3, 4, 5, 6, 7, 8, 9, 10, 11, 12, 13, 14, 15, 16, 20, 17, 18, 19] (by exact ⟨rfl, rfl, by decide, rfl⟩) rfl hl.1 rfl (Nat.le_of_ble_eq_true rfl) dX9_becomes_116 ⟨Nat.le_refl _, Nat.le_refl _⟩ (fun H locs hP hD hS => ?_)
  refine lv_aload_n hx hb dX9_becomes_119 rfl (lv_at hl 0 rfl) ?_
  refine va_get (D := D) (ci := 9) (v := .ref a19) (C := RX9) (T := TX9) (N := 45) hx hb hts in_X9 hown hK hP 0 rfl rfl 19 (by decide) lk_68 (fun _ h9 => h9) rfl dX9_becomes_120 ?_
  obtain ⟨priority_18, hc, hf⟩ := ob1_some hf
  refine g_SV (As := [.ref a19]) (rest := []) (ws' := (w_X9_becomes kc a0 a1 a2 a3 a4 a5 a6 a7 a8 a9 a10 a11 a12 a13 a14 a15 a16 a17 a18 a19 a20 a21 a22 a23 a24 a25 a26 a27 a28 thrown loftSize startWind seed draftLoft draftStart draftSeed length textSize start next_ token value error errorAt number undos regions_1 risk_2 distance_3 comesBack_4 winds_5 named_6 namedRegion_7 namedWeight_8 turns_9 turnFrom_10 turnTo_11 turnWeight_12 balloons_13 room__14 pigeons_15 letters_16 weight_17 priority_18 now isSaved)) ⟨hx, hb, hml, hown, hts⟩ hN hK hP hD hS hA (c_X9_lifts l D kc N a19 48 priority priority_18 hc) (va_cwS 1 hts gX9_becomes_X9_lifts rfl rfl rfl (by decide +kernel) ⟨Nat.le_of_ble_eq_true rfl, Nat.le_of_ble_eq_true rfl⟩) [18] [0, 1, 2, 3, 4, 5, 6, 7, 8, 9, 10, 11, 12, 13, 14, 15, 16, 17, 19, 20] [0, 1, 2, 3, 4, 5, 6, 7, 8, 9, 10, 11, 12, 13, 14, 15, 16, 17, 20, 18, 19] (by exact ⟨rfl, rfl, by decide, rfl⟩) rfl hl.1 rfl (Nat.le_of_ble_eq_true rfl) dX9_becomes_123 ⟨Nat.le_refl _, Nat.le_refl _⟩ (fun H locs hP hD hS => ?_)
  refine lv_aload_n hx hb dX9_becomes_126 rfl (lv_at hl 0 rfl) ?_
  refine lv_aload_n hx hb dX9_becomes_127 rfl (lv_at hl 0 rfl) ?_
  refine va_get (D := D) (ci := 9) (v := .int draftLoft) (C := RX9) (T := TX9) (N := 45) hx hb hts in_X9 hown hK hP 0 rfl rfl 23 (by decide) lk_182 (fun _ h9 => h9) rfl dX9_becomes_128 ?_
  refine lv_bipush (v := (-2)) hx hb dX9_becomes_131 (by decide) ?_
  refine lv_icmp_ne (tgt := 141) hx hb dX9_becomes_133 (by decide) (fun hc => ?_) (fun hc => ?_)
  · have hf := o_f hc hf
    refine lv_aload_n hx hb dX9_becomes_141 rfl (lv_at hl 0 rfl) ?_
    refine va_get (D := D) (ci := 9) (v := .int draftLoft) (C := RX9) (T := TX9) (N := 45) hx hb hts in_X9 hown hK hP 0 rfl rfl 23 (by decide) lk_182 (fun _ h9 => h9) rfl dX9_becomes_142 ?_
    exact J145 _ _ _ _ _ _ _ _ _ _ _ _ _ _ _ _ _ _ _ hf _ _ _ hP hD hS (lv_sub hl [0] rfl)
  · have hf := o_t hc hf
    refine lv_bipush (v := 8) hx hb dX9_becomes_136 (by decide) ?_
    refine lv_goto (tgt := 145) hx hb dX9_becomes_138 (by decide) ?_
    exact J145 _ _ _ _ _ _ _ _ _ _ _ _ _ _ _ _ _ _ _ hf _ _ _ hP hD hS (lv_sub hl [0] rfl)
