abbrev w_X1_has (kc : Nat → ClassId) (a0 a1 a2 a3 : Nat) (count : Int32) : va_W := [(a0, .inr (1, [.ref a1, .ref a2, .ref a3, .int count]))]
set_option maxHeartbeats 4000000 in
set_option maxRecDepth 100000 in
theorem c_X1_has (l : Launch) (D : va_G) (kc : Nat → ClassId) (N : Nat) (a0 a1 a2 a3 : Nat) (count : Int32) (x1 : Int32) (r_ : Int32) (hf : f_X1_has N count x1 = some r_) : MZ l yX1_has wsX1_has ({ frames := 0, cells := 0, slots := 0, locals := 0 }) D kc [.ref a0, .int x1] (w_X1_has kc a0 a1 a2 a3 count) (w_X1_has kc a0 a1 a2 a3 count) r_ := by
  refine gM_Z (cc := cX1_has) (maxL := 2) (by decide) rfl (Nat.le_of_ble_eq_true rfl) ?_
  intro p e s m below meth c A ls Q hx hb hml hown hts hN hK hP hD hA hl kR
  have hS : va_S A s.heap s.heap [] := va_S.rf
  have hl : lv_has ls 2 [(0, .ref a0), (1, .int x1)] := hl
  have in_X1 : ∀ w ∈ u_ws RX1 TX1 4, w ∈ wsX1_has := by decide +kernel
  have lk_21 := hts (.fieldLink RX1 21 "BalloonMail$Journal" "count" "I") (by decide +kernel)
  unfold f_X1_has at hf
  refine lv_iload_n hx hb dX1_has_0 rfl (lv_at hl 1 rfl) ?_
  refine lv_if_lt (tgt := 16) hx hb dX1_has_1 (by decide) (fun hc => ?_) (fun hc => ?_)
  · have hf := o_t hc hf
    refine lv_iconst (v := 0) hx hb dX1_has_16 (by decide) ?_
    cases hf
    exact kR _ _ _ _ (Or.inl rfl) hP hD hS dX1_has_17
  · have hf := o_f hc hf
    refine lv_iload_n hx hb dX1_has_4 rfl (lv_at hl 1 rfl) ?_
    refine lv_aload_n hx hb dX1_has_5 rfl (lv_at hl 0 rfl) ?_
    refine va_get (D := D) (ci := 1) (v := .int count) (C := RX1) (T := TX1) (N := 4) hx hb hts in_X1 hown hK hP 0 rfl rfl 3 (by decide) lk_21 (fun _ h9 => h9) rfl dX1_has_6 ?_
    refine lv_icmp_ge (tgt := 16) hx hb dX1_has_9 (by decide) (fun hc => ?_) (fun hc => ?_)
    · have hf := o_t hc hf
      refine lv_iconst (v := 0) hx hb dX1_has_16 (by decide) ?_
      cases hf
      exact kR _ _ _ _ (Or.inl rfl) hP hD hS dX1_has_17
    · have hf := o_f hc hf
      refine lv_iconst (v := 1) hx hb dX1_has_12 (by decide) ?_
      refine lv_goto (tgt := 17) hx hb dX1_has_13 (by decide) ?_
      cases hf
      exact kR _ _ _ _ (Or.inr rfl) hP hD hS dX1_has_17
abbrev w_X1_dropOldest (kc : Nat → ClassId) (a0 a1 a2 a3 : Nat) (count : Int32) (kind : Nat → Int32) (number : Nat → Int32) (day : Nat → Int32) : va_W := [(a0, .inr (1, [.ref a1, .ref a2, .ref a3, .int count])), (a1, .inl (kc 1, 16, .inl kind)), (a2, .inl (kc 1, 16, .inl number)), (a3, .inl (kc 1, 16, .inl day))]
set_option maxHeartbeats 4000000 in
set_option maxRecDepth 100000 in
theorem c_X1_dropOldest (l : Launch) (D : va_G) (kc : Nat → ClassId) (N : Nat) (a0 a1 a2 a3 : Nat) (count : Int32) (kind : Nat → Int32) (number : Nat → Int32) (day : Nat → Int32) (count' : Int32) (kind' : Nat → Int32) (number' : Nat → Int32) (day' : Nat → Int32) (hf : f_X1_dropOldest N kind number day = some (count', kind', number', day')) : MV l yX1_dropOldest wsX1_dropOldest ({ frames := 0, cells := 0, slots := 0, locals := 0 }) D kc [.ref a0] (w_X1_dropOldest kc a0 a1 a2 a3 count kind number day) (w_X1_dropOldest kc a0 a1 a2 a3 count' kind' number' day') := by
  refine gM_V (cc := cX1_dropOldest) (maxL := 2) (by decide) rfl (Nat.le_of_ble_eq_true rfl) ?_
  intro p e s m below meth c A ls Q hx hb hml hown hts hN hK hP hD hA hl kR
  have hS : va_S A s.heap s.heap [] := va_S.rf
  have hl : lv_has ls 2 [(0, .ref a0)] := hl
  have in_X1 : ∀ w ∈ u_ws RX1 TX1 4, w ∈ wsX1_dropOldest := by decide +kernel
  have lk_9 := hts (.fieldLink RX1 9 "BalloonMail$Journal" "kind" "[I") (by decide +kernel)
  have lk_15 := hts (.fieldLink RX1 15 "BalloonMail$Journal" "number" "[I") (by decide +kernel)
  have lk_18 := hts (.fieldLink RX1 18 "BalloonMail$Journal" "day" "[I") (by decide +kernel)
  have lk_21 := hts (.fieldLink RX1 21 "BalloonMail$Journal" "count" "I") (by decide +kernel)
  unfold f_X1_dropOldest at hf
  refine lv_iconst (v := 1) hx hb dX1_dropOldest_0 (by decide) ?_
  refine lv_istore_n (lv' := [(1, .int 1), (0, .ref a0)]) hx hb dX1_dropOldest_1 rfl hl (by decide) rfl (fun ls hl => ?_)
  have L2 : ∀ (n : Nat) (y1_2 : Int32) (kind_2 : Nat → Int32) (number_2 : Nat → Int32) (day_2 : Nat → Int32) (y1_2o : Int32) (kind_2o : Nat → Int32) (number_2o : Nat → Int32) (day_2o : Nat → Int32), f_X1_dropOldest_2 N n y1_2 kind_2 number_2 day_2 = some (y1_2o, kind_2o, number_2o, day_2o) → (∀ (H : Heap) (locs : List Loc) (ls : Array Slot), va_P D vwCl (w_X1_dropOldest kc a0 a1 a2 a3 count kind_2o number_2o day_2o) H → va_D A (w_X1_dropOldest kc a0 a1 a2 a3 count kind_2o number_2o day_2o) → va_S A s.heap H locs → lv_has ls 2 [(0, .ref a0), (1, .int y1_2o)] → W p l e ({ frames := 0, cells := 0, slots := 0, locals := 0 }) s m (([.ref a0] : List Value).toArray) below meth c H locs 0 0 Q (F0 m 56 ls [])) → ∀ (H : Heap) (locs : List Loc) (ls : Array Slot), va_P D vwCl (w_X1_dropOldest kc a0 a1 a2 a3 count kind_2 number_2 day_2) H → va_D A (w_X1_dropOldest kc a0 a1 a2 a3 count kind_2 number_2 day_2) → va_S A s.heap H locs → lv_has ls 2 [(0, .ref a0), (1, .int y1_2)] → W p l e ({ frames := 0, cells := 0, slots := 0, locals := 0 }) s m (([.ref a0] : List Value).toArray) below meth c H locs 0 0 Q (F0 m 2 ls []) := by
    intro n
    induction n with
    | zero => intro _ _ _ _ _ _ _ _ hf; rw [f_X1_dropOldest_2.eq_1] at hf; cases hf
    | succ n ih =>
      intro y1_2 kind_2 number_2 day_2 y1_2o kind_2o number_2o day_2o hf hk H locs ls hP hD hS hl
      rw [f_X1_dropOldest_2.eq_2] at hf
      refine lv_iload_n hx hb dX1_dropOldest_2 rfl (lv_at hl 1 rfl) ?_
      refine lv_bipush (v := 16) hx hb dX1_dropOldest_3 (by decide) ?_
      refine lv_icmp_ge (tgt := 56) hx hb dX1_dropOldest_5 (by decide) (fun hc => ?_) (fun hc => ?_)
      · have hf := o_t hc hf
        cases hf
        exact hk _ _ _ hP hD hS (lv_sub hl [0, 1] rfl)
      · have hf := o_f hc hf
        refine lv_aload_n hx hb dX1_dropOldest_8 rfl (lv_at hl 0 rfl) ?_
        refine va_get (D := D) (ci := 1) (v := .ref a1) (C := RX1) (T := TX1) (N := 4) hx hb hts in_X1 hown hK hP 0 rfl rfl 0 (by decide) lk_9 (fun _ h9 => h9) rfl dX1_dropOldest_9 ?_
        refine lv_iload_n hx hb dX1_dropOldest_12 rfl (lv_at hl 1 rfl) ?_
        refine lv_iconst (v := 1) hx hb dX1_dropOldest_13 (by decide) ?_
        refine lv_isub hx hb dX1_dropOldest_14 ?_
        refine lv_aload_n hx hb dX1_dropOldest_15 rfl (lv_at hl 0 rfl) ?_
        refine va_get (D := D) (ci := 1) (v := .ref a1) (C := RX1) (T := TX1) (N := 4) hx hb hts in_X1 hown hK hP 0 rfl rfl 0 (by decide) lk_9 (fun _ h9 => h9) rfl dX1_dropOldest_16 ?_
        refine lv_iload_n hx hb dX1_dropOldest_19 rfl (lv_at hl 1 rfl) ?_
        obtain ⟨hi, hf⟩ := gIx_some hf
        refine va_iald hx hb hK hP 1 1 rfl rfl hi dX1_dropOldest_20 ?_
        obtain ⟨hi, hf⟩ := gIx_some hf
        refine va_iast hx hb hK hP hD hS 1 1 rfl rfl hi dX1_dropOldest_21 (fun H locs hP hD hS => ?_)
        have hP : va_P D vwCl (w_X1_dropOldest kc a0 a1 a2 a3 count (upd kind_2 ((y1_2 - 1) : Int32).toNatClampNeg (kind_2 (y1_2 : Int32).toNatClampNeg)) number_2 day_2) H := hP
        have hD : va_D A (w_X1_dropOldest kc a0 a1 a2 a3 count (upd kind_2 ((y1_2 - 1) : Int32).toNatClampNeg (kind_2 (y1_2 : Int32).toNatClampNeg)) number_2 day_2) := hD
        refine lv_aload_n hx hb dX1_dropOldest_22 rfl (lv_at hl 0 rfl) ?_
        refine va_get (D := D) (ci := 1) (v := .ref a2) (C := RX1) (T := TX1) (N := 4) hx hb hts in_X1 hown hK hP 0 rfl rfl 1 (by decide) lk_15 (fun _ h9 => h9) rfl dX1_dropOldest_23 ?_
        refine lv_iload_n hx hb dX1_dropOldest_26 rfl (lv_at hl 1 rfl) ?_
        refine lv_iconst (v := 1) hx hb dX1_dropOldest_27 (by decide) ?_
        refine lv_isub hx hb dX1_dropOldest_28 ?_
        refine lv_aload_n hx hb dX1_dropOldest_29 rfl (lv_at hl 0 rfl) ?_
        refine va_get (D := D) (ci := 1) (v := .ref a2) (C := RX1) (T := TX1) (N := 4) hx hb hts in_X1 hown hK hP 0 rfl rfl 1 (by decide) lk_15 (fun _ h9 => h9) rfl dX1_dropOldest_30 ?_
        refine lv_iload_n hx hb dX1_dropOldest_33 rfl (lv_at hl 1 rfl) ?_
        obtain ⟨hi, hf⟩ := gIx_some hf
        refine va_iald hx hb hK hP 2 1 rfl rfl hi dX1_dropOldest_34 ?_
        obtain ⟨hi, hf⟩ := gIx_some hf
        refine va_iast hx hb hK hP hD hS 2 1 rfl rfl hi dX1_dropOldest_35 (fun H locs hP hD hS => ?_)
        have hP : va_P D vwCl (w_X1_dropOldest kc a0 a1 a2 a3 count (upd kind_2 ((y1_2 - 1) : Int32).toNatClampNeg (kind_2 (y1_2 : Int32).toNatClampNeg)) (upd number_2 ((y1_2 - 1) : Int32).toNatClampNeg (number_2 (y1_2 : Int32).toNatClampNeg)) day_2) H := hP
        have hD : va_D A (w_X1_dropOldest kc a0 a1 a2 a3 count (upd kind_2 ((y1_2 - 1) : Int32).toNatClampNeg (kind_2 (y1_2 : Int32).toNatClampNeg)) (upd number_2 ((y1_2 - 1) : Int32).toNatClampNeg (number_2 (y1_2 : Int32).toNatClampNeg)) day_2) := hD
        refine lv_aload_n hx hb dX1_dropOldest_36 rfl (lv_at hl 0 rfl) ?_
        refine va_get (D := D) (ci := 1) (v := .ref a3) (C := RX1) (T := TX1) (N := 4) hx hb hts in_X1 hown hK hP 0 rfl rfl 2 (by decide) lk_18 (fun _ h9 => h9) rfl dX1_dropOldest_37 ?_
        refine lv_iload_n hx hb dX1_dropOldest_40 rfl (lv_at hl 1 rfl) ?_
        refine lv_iconst (v := 1) hx hb dX1_dropOldest_41 (by decide) ?_
        refine lv_isub hx hb dX1_dropOldest_42 ?_
        refine lv_aload_n hx hb dX1_dropOldest_43 rfl (lv_at hl 0 rfl) ?_
        refine va_get (D := D) (ci := 1) (v := .ref a3) (C := RX1) (T := TX1) (N := 4) hx hb hts in_X1 hown hK hP 0 rfl rfl 2 (by decide) lk_18 (fun _ h9 => h9) rfl dX1_dropOldest_44 ?_
        refine lv_iload_n hx hb dX1_dropOldest_47 rfl (lv_at hl 1 rfl) ?_
        obtain ⟨hi, hf⟩ := gIx_some hf
        refine va_iald hx hb hK hP 3 1 rfl rfl hi dX1_dropOldest_48 ?_
        obtain ⟨hi, hf⟩ := gIx_some hf
        refine va_iast hx hb hK hP hD hS 3 1 rfl rfl hi dX1_dropOldest_49 (fun H locs hP hD hS => ?_)
        have hP : va_P D vwCl (w_X1_dropOldest kc a0 a1 a2 a3 count (upd kind_2 ((y1_2 - 1) : Int32).toNatClampNeg (kind_2 (y1_2 : Int32).toNatClampNeg)) (upd number_2 ((y1_2 - 1) : Int32).toNatClampNeg (number_2 (y1_2 : Int32).toNatClampNeg)) (upd day_2 ((y1_2 - 1) : Int32).toNatClampNeg (day_2 (y1_2 : Int32).toNatClampNeg))) H := hP
        have hD : va_D A (w_X1_dropOldest kc a0 a1 a2 a3 count (upd kind_2 ((y1_2 - 1) : Int32).toNatClampNeg (kind_2 (y1_2 : Int32).toNatClampNeg)) (upd number_2 ((y1_2 - 1) : Int32).toNatClampNeg (number_2 (y1_2 : Int32).toNatClampNeg)) (upd day_2 ((y1_2 - 1) : Int32).toNatClampNeg (day_2 (y1_2 : Int32).toNatClampNeg))) := hD
        refine lv_iinc (v := (y1_2 + 1)) (lv' := [(1, .int (y1_2 + 1)), (0, .ref a0)]) hx hb dX1_dropOldest_50 hl (k := 1) rfl (by rfl) (by decide) rfl (fun ls hl => ?_)
        refine lv_goto (tgt := 2) hx hb dX1_dropOldest_53 (by decide) ?_
        exact ih _ _ _ _ _ _ _ _ hf hk _ _ _ hP hD hS (lv_sub hl [1, 0] rfl)
  obtain ⟨y1_2o, kind_2o, number_2o, day_2o, hc, hf⟩ := ob4_some hf
  refine L2 N _ _ _ _ _ _ _ _ hc (fun H locs ls hP hD hS hl => ?_) _ _ _ hP hD hS (lv_sub hl [1, 0] rfl)
  refine lv_aload_n hx hb dX1_dropOldest_56 rfl (lv_at hl 0 rfl) ?_
  refine lv_bipush (v := 15) hx hb dX1_dropOldest_57 (by decide) ?_
  refine va_put (D := D) (ci := 1) (v := .int 15) (ty := .int) (C := RX1) (T := TX1) (N := 4) hx hb hts in_X1 tyX1 tyX1_ok nmX1 hown hK hP hD hS 0 rfl rfl 3 (by decide) lk_21 (fun _ h9 => h9) rfl (by decide +kernel) rfl rfl (Nat.le_of_ble_eq_true rfl) dX1_dropOldest_59 (fun H locs hP hD hS => ?_)
  have hP : va_P D vwCl (w_X1_dropOldest kc a0 a1 a2 a3 15 kind_2o number_2o day_2o) H := hP
  have hD : va_D A (w_X1_dropOldest kc a0 a1 a2 a3 15 kind_2o number_2o day_2o) := hD
  cases hf
  exact kR _ _ _ _ hP hD hS dX1_dropOldest_62
abbrev w_X1_add (kc : Nat → ClassId) (a0 a1 a2 a3 : Nat) (count : Int32) (kind : Nat → Int32) (number : Nat → Int32) (day : Nat → Int32) : va_W := [(a0, .inr (1, [.ref a1, .ref a2, .ref a3, .int count])), (a1, .inl (kc 1, 16, .inl kind)), (a2, .inl (kc 1, 16, .inl number)), (a3, .inl (kc 1, 16, .inl day))]
set_option maxHeartbeats 4000000 in
set_option maxRecDepth 100000 in
theorem c_X1_add (l : Launch) (D : va_G) (kc : Nat → ClassId) (N : Nat) (a0 a1 a2 a3 : Nat) (count : Int32) (kind : Nat → Int32) (number : Nat → Int32) (day : Nat → Int32) (x1 : Int32) (x2 : Int32) (x3 : Int32) (count' : Int32) (kind' : Nat → Int32) (number' : Nat → Int32) (day' : Nat → Int32) (hf : f_X1_add N count kind number day x1 x2 x3 = some (count', kind', number', day')) : MV l yX1_add wsX1_add ({ frames := 1, cells := 0, slots := 0, locals := 21 }) D kc [.ref a0, .int x1, .int x2, .int x3] (w_X1_add kc a0 a1 a2 a3 count kind number day) (w_X1_add kc a0 a1 a2 a3 count' kind' number' day') := by
  refine gM_V (cc := cX1_add) (maxL := 4) (by decide) rfl (Nat.le_of_ble_eq_true rfl) ?_
  intro p e s m below meth c A ls Q hx hb hml hown hts hN hK hP hD hA hl kR
  have hS : va_S A s.heap s.heap [] := va_S.rf
  have hl : lv_has ls 4 [(0, .ref a0), (1, .int x1), (2, .int x2), (3, .int x3)] := hl
  have in_X1 : ∀ w ∈ u_ws RX1 TX1 4, w ∈ wsX1_add := by decide +kernel
  have lk_21 := hts (.fieldLink RX1 21 "BalloonMail$Journal" "count" "I") (by decide +kernel)
  have lk_9 := hts (.fieldLink RX1 9 "BalloonMail$Journal" "kind" "[I") (by decide +kernel)
  have lk_15 := hts (.fieldLink RX1 15 "BalloonMail$Journal" "number" "[I") (by decide +kernel)
  have lk_18 := hts (.fieldLink RX1 18 "BalloonMail$Journal" "day" "[I") (by decide +kernel)
  have J13 : ∀ (count_13 : Int32) (kind_13 : Nat → Int32) (number_13 : Nat → Int32) (day_13 : Nat → Int32), f_X1_add_j13 N x1 x2 x3 count_13 kind_13 number_13 day_13 = some (count', kind', number', day') → ∀ (H : Heap) (locs : List Loc) (ls : Array Slot), va_P D vwCl (w_X1_add kc a0 a1 a2 a3 count_13 kind_13 number_13 day_13) H → va_D A (w_X1_add kc a0 a1 a2 a3 count_13 kind_13 number_13 day_13) → va_S A s.heap H locs → lv_has ls 4 [(0, .ref a0), (1, .int x1), (2, .int x2), (3, .int x3)] → W p l e ({ frames := 1, cells := 0, slots := 0, locals := 21 }) s m (([.ref a0, .int x1, .int x2, .int x3] : List Value).toArray) below meth c H locs 0 0 Q (F0 m 13 ls []) := by
    clear hf
    intro count_13 kind_13 number_13 day_13 hf H locs ls hP hD hS hl
    unfold f_X1_add_j13 at hf
    refine lv_aload_n hx hb dX1_add_13 rfl (lv_at hl 0 rfl) ?_
    refine va_get (D := D) (ci := 1) (v := .int count_13) (C := RX1) (T := TX1) (N := 4) hx hb hts in_X1 hown hK hP 0 rfl rfl 3 (by decide) lk_21 (fun _ h9 => h9) rfl dX1_add_14 ?_
    refine lv_if_lt (tgt := 69) hx hb dX1_add_17 (by decide) (fun hc => ?_) (fun hc => ?_)
    · have hf := o_t hc hf
      cases hf
      exact kR _ _ _ _ hP hD hS dX1_add_69
    · have hf := o_f hc hf
      refine lv_aload_n hx hb dX1_add_20 rfl (lv_at hl 0 rfl) ?_
      refine va_get (D := D) (ci := 1) (v := .int count_13) (C := RX1) (T := TX1) (N := 4) hx hb hts in_X1 hown hK hP 0 rfl rfl 3 (by decide) lk_21 (fun _ h9 => h9) rfl dX1_add_21 ?_
      refine lv_bipush (v := 16) hx hb dX1_add_24 (by decide) ?_
      refine lv_icmp_ge (tgt := 69) hx hb dX1_add_26 (by decide) (fun hc => ?_) (fun hc => ?_)
      · have hf := o_t hc hf
        cases hf
        exact kR _ _ _ _ hP hD hS dX1_add_69
      · have hf := o_f hc hf
        refine lv_aload_n hx hb dX1_add_29 rfl (lv_at hl 0 rfl) ?_
        refine va_get (D := D) (ci := 1) (v := .ref a1) (C := RX1) (T := TX1) (N := 4) hx hb hts in_X1 hown hK hP 0 rfl rfl 0 (by decide) lk_9 (fun _ h9 => h9) rfl dX1_add_30 ?_
        refine lv_aload_n hx hb dX1_add_33 rfl (lv_at hl 0 rfl) ?_
        refine va_get (D := D) (ci := 1) (v := .int count_13) (C := RX1) (T := TX1) (N := 4) hx hb hts in_X1 hown hK hP 0 rfl rfl 3 (by decide) lk_21 (fun _ h9 => h9) rfl dX1_add_34 ?_
        refine lv_iload_n hx hb dX1_add_37 rfl (lv_at hl 1 rfl) ?_
        obtain ⟨hi, hf⟩ := gIx_some hf
        refine va_iast hx hb hK hP hD hS 1 1 rfl rfl hi dX1_add_38 (fun H locs hP hD hS => ?_)
        have hP : va_P D vwCl (w_X1_add kc a0 a1 a2 a3 count_13 (upd kind_13 (count_13 : Int32).toNatClampNeg x1) number_13 day_13) H := hP
        have hD : va_D A (w_X1_add kc a0 a1 a2 a3 count_13 (upd kind_13 (count_13 : Int32).toNatClampNeg x1) number_13 day_13) := hD
        refine lv_aload_n hx hb dX1_add_39 rfl (lv_at hl 0 rfl) ?_
        refine va_get (D := D) (ci := 1) (v := .ref a2) (C := RX1) (T := TX1) (N := 4) hx hb hts in_X1 hown hK hP 0 rfl rfl 1 (by decide) lk_15 (fun _ h9 => h9) rfl dX1_add_40 ?_
        refine lv_aload_n hx hb dX1_add_43 rfl (lv_at hl 0 rfl) ?_
        refine va_get (D := D) (ci := 1) (v := .int count_13) (C := RX1) (T := TX1) (N := 4) hx hb hts in_X1 hown hK hP 0 rfl rfl 3 (by decide) lk_21 (fun _ h9 => h9) rfl dX1_add_44 ?_
        refine lv_iload_n hx hb dX1_add_47 rfl (lv_at hl 2 rfl) ?_
        obtain ⟨hi, hf⟩ := gIx_some hf
        refine va_iast hx hb hK hP hD hS 2 1 rfl rfl hi dX1_add_48 (fun H locs hP hD hS => ?_)
        have hP : va_P D vwCl (w_X1_add kc a0 a1 a2 a3 count_13 (upd kind_13 (count_13 : Int32).toNatClampNeg x1) (upd number_13 (count_13 : Int32).toNatClampNeg x2) day_13) H := hP
        have hD : va_D A (w_X1_add kc a0 a1 a2 a3 count_13 (upd kind_13 (count_13 : Int32).toNatClampNeg x1) (upd number_13 (count_13 : Int32).toNatClampNeg x2) day_13) := hD
        refine lv_aload_n hx hb dX1_add_49 rfl (lv_at hl 0 rfl) ?_
        refine va_get (D := D) (ci := 1) (v := .ref a3) (C := RX1) (T := TX1) (N := 4) hx hb hts in_X1 hown hK hP 0 rfl rfl 2 (by decide) lk_18 (fun _ h9 => h9) rfl dX1_add_50 ?_
        refine lv_aload_n hx hb dX1_add_53 rfl (lv_at hl 0 rfl) ?_
        refine va_get (D := D) (ci := 1) (v := .int count_13) (C := RX1) (T := TX1) (N := 4) hx hb hts in_X1 hown hK hP 0 rfl rfl 3 (by decide) lk_21 (fun _ h9 => h9) rfl dX1_add_54 ?_
        refine lv_iload_n hx hb dX1_add_57 rfl (lv_at hl 3 rfl) ?_
        obtain ⟨hi, hf⟩ := gIx_some hf
        refine va_iast hx hb hK hP hD hS 3 1 rfl rfl hi dX1_add_58 (fun H locs hP hD hS => ?_)
        have hP : va_P D vwCl (w_X1_add kc a0 a1 a2 a3 count_13 (upd kind_13 (count_13 : Int32).toNatClampNeg x1) (upd number_13 (count_13 : Int32).toNatClampNeg x2) (upd day_13 (count_13 : Int32).toNatClampNeg x3)) H := hP
        have hD : va_D A (w_X1_add kc a0 a1 a2 a3 count_13 (upd kind_13 (count_13 : Int32).toNatClampNeg x1) (upd number_13 (count_13 : Int32).toNatClampNeg x2) (upd day_13 (count_13 : Int32).toNatClampNeg x3)) := hD
        refine lv_aload_n hx hb dX1_add_59 rfl (lv_at hl 0 rfl) ?_
        refine lv_dup hx hb dX1_add_60 rfl ?_
        refine va_get (D := D) (ci := 1) (v := .int count_13) (C := RX1) (T := TX1) (N := 4) hx hb hts in_X1 hown hK hP 0 rfl rfl 3 (by decide) lk_21 (fun _ h9 => h9) rfl dX1_add_61 ?_
        refine lv_iconst (v := 1) hx hb dX1_add_64 (by decide) ?_
        refine lv_iadd hx hb dX1_add_65 ?_
        refine va_put (D := D) (ci := 1) (v := .int (count_13 + 1)) (ty := .int) (C := RX1) (T := TX1) (N := 4) hx hb hts in_X1 tyX1 tyX1_ok nmX1 hown hK hP hD hS 0 rfl rfl 3 (by decide) lk_21 (fun _ h9 => h9) rfl (by decide +kernel) rfl rfl (Nat.le_of_ble_eq_true rfl) dX1_add_66 (fun H locs hP hD hS => ?_)
        have hP : va_P D vwCl (w_X1_add kc a0 a1 a2 a3 (count_13 + 1) (upd kind_13 (count_13 : Int32).toNatClampNeg x1) (upd number_13 (count_13 : Int32).toNatClampNeg x2) (upd day_13 (count_13 : Int32).toNatClampNeg x3)) H := hP
        have hD : va_D A (w_X1_add kc a0 a1 a2 a3 (count_13 + 1) (upd kind_13 (count_13 : Int32).toNatClampNeg x1) (upd number_13 (count_13 : Int32).toNatClampNeg x2) (upd day_13 (count_13 : Int32).toNatClampNeg x3)) := hD
        cases hf
        exact kR _ _ _ _ hP hD hS dX1_add_69
  unfold f_X1_add at hf
  refine lv_aload_n hx hb dX1_add_0 rfl (lv_at hl 0 rfl) ?_
  refine va_get (D := D) (ci := 1) (v := .int count) (C := RX1) (T := TX1) (N := 4) hx hb hts in_X1 hown hK hP 0 rfl rfl 3 (by decide) lk_21 (fun _ h9 => h9) rfl dX1_add_1 ?_
  refine lv_bipush (v := 16) hx hb dX1_add_4 (by decide) ?_
  refine lv_icmp_lt (tgt := 13) hx hb dX1_add_6 (by decide) (fun hc => ?_) (fun hc => ?_)
  · have hf := o_t hc hf
    exact J13 _ _ _ _ hf _ _ _ hP hD hS (lv_sub hl [0, 1, 2, 3] rfl)
  · have hf := o_f hc hf
    refine lv_aload_n hx hb dX1_add_9 rfl (lv_at hl 0 rfl) ?_
    obtain ⟨count_1, kind_2, number_3, day_4, hc, hf⟩ := ob4_some hf
    refine g_VV (As := []) (rest := []) (ws' := (w_X1_add kc a0 a1 a2 a3 count_1 kind_2 number_3 day_4)) ⟨hx, hb, hml, hown, hts⟩ hN hK hP hD hS hA (c_X1_dropOldest l D kc N a0 a1 a2 a3 count kind number day count_1 kind_2 number_3 day_4 hc) (cwV 0 hts gX1_add_X1_dropOldest rfl rfl rfl (by decide +kernel) ⟨Nat.le_of_ble_eq_true rfl, Nat.le_of_ble_eq_true rfl⟩) [0, 1, 2, 3] [] [0, 1, 2, 3] (by exact ⟨rfl, rfl, by decide, rfl⟩) 0 1 rfl rfl rfl rfl hl.1 rfl (Nat.le_of_ble_eq_true rfl) dX1_add_10 ⟨Nat.le_refl _, Nat.le_refl _⟩ (fun H locs hP hD hS => ?_)
    exact J13 _ _ _ _ hf _ _ _ hP hD hS (lv_sub hl [0, 1, 2, 3] rfl)
abbrev w_X1_copyFrom (kc : Nat → ClassId) (a0 a1 a2 a3 a4 a5 a6 a7 : Nat) (count : Int32) (count2 : Int32) (kind : Nat → Int32) (kind2 : Nat → Int32) (number : Nat → Int32) (number2 : Nat → Int32) (day : Nat → Int32) (day2 : Nat → Int32) : va_W := [(a0, .inr (1, [.ref a1, .ref a2, .ref a3, .int count])), (a4, .inr (1, [.ref a5, .ref a6, .ref a7, .int count2])), (a1, .inl (kc 1, 16, .inl kind)), (a5, .inl (kc 1, 16, .inl kind2)), (a2, .inl (kc 1, 16, .inl number)), (a6, .inl (kc 1, 16, .inl number2)), (a3, .inl (kc 1, 16, .inl day)), (a7, .inl (kc 1, 16, .inl day2))]
set_option maxHeartbeats 4000000 in
set_option maxRecDepth 100000 in
theorem c_X1_copyFrom (l : Launch) (D : va_G) (kc : Nat → ClassId) (N : Nat) (a0 a1 a2 a3 a4 a5 a6 a7 : Nat) (count : Int32) (count2 : Int32) (kind : Nat → Int32) (kind2 : Nat → Int32) (number : Nat → Int32) (number2 : Nat → Int32) (day : Nat → Int32) (day2 : Nat → Int32) (count2' : Int32) (kind2' : Nat → Int32) (number2' : Nat → Int32) (day2' : Nat → Int32) (hf : f_X1_copyFrom N count kind kind2 number number2 day day2 = some (count2', kind2', number2', day2')) : MV l yX1_copyFrom wsX1_copyFrom ({ frames := 1, cells := 0, slots := 0, locals := 40 }) D kc [.ref a4, .ref a0] (w_X1_copyFrom kc a0 a1 a2 a3 a4 a5 a6 a7 count count2 kind kind2 number number2 day day2) (w_X1_copyFrom kc a0 a1 a2 a3 a4 a5 a6 a7 count count2' kind kind2' number number2' day day2') := by
  refine gM_V (cc := cX1_copyFrom) (maxL := 2) (by decide) rfl (Nat.le_of_ble_eq_true rfl) ?_
  intro p e s m below meth c A ls Q hx hb hml hown hts hN hK hP hD hA hl kR
  have hS : va_S A s.heap s.heap [] := va_S.rf
  have hl : lv_has ls 2 [(0, .ref a4), (1, .ref a0)] := hl
  have in_X1 : ∀ w ∈ u_ws RX1 TX1 4, w ∈ wsX1_copyFrom := by decide +kernel
  have lk_9 := hts (.fieldLink RX1 9 "BalloonMail$Journal" "kind" "[I") (by decide +kernel)
  have lk_15 := hts (.fieldLink RX1 15 "BalloonMail$Journal" "number" "[I") (by decide +kernel)
  have lk_18 := hts (.fieldLink RX1 18 "BalloonMail$Journal" "day" "[I") (by decide +kernel)
  have lk_21 := hts (.fieldLink RX1 21 "BalloonMail$Journal" "count" "I") (by decide +kernel)
  unfold f_X1_copyFrom at hf
  refine lv_aload_n hx hb dX1_copyFrom_0 rfl (lv_at hl 1 rfl) ?_
  refine va_get (D := D) (ci := 1) (v := .ref a1) (C := RX1) (T := TX1) (N := 4) hx hb hts in_X1 hown hK hP 0 rfl rfl 0 (by decide) lk_9 (fun _ h9 => h9) rfl dX1_copyFrom_1 ?_
  refine lv_iconst (v := 0) hx hb dX1_copyFrom_4 (by decide) ?_
  refine lv_aload_n hx hb dX1_copyFrom_5 rfl (lv_at hl 0 rfl) ?_
  refine va_get (D := D) (ci := 1) (v := .ref a5) (C := RX1) (T := TX1) (N := 4) hx hb hts in_X1 hown hK hP 1 rfl rfl 0 (by decide) lk_9 (fun _ h9 => h9) rfl dX1_copyFrom_6 ?_
  refine lv_iconst (v := 0) hx hb dX1_copyFrom_9 (by decide) ?_
  refine lv_bipush (v := 16) hx hb dX1_copyFrom_10 (by decide) ?_
  refine va_copyi hx hb (hml.trans hl.1.symm) hown (hts (.methodLink RX1 28 arraycopyName) (by decide +kernel)) (hts (.native arraycopyName) (by decide +kernel)) (hts (.static arraycopyName) (by decide +kernel)) (hts (.initialized "java/lang/System") (by decide +kernel)) hK hP hD hS 2 3 1 1 rfl rfl rfl rfl rfl (by decide) (by decide) (by decide) (by decide) (by decide) (fun _ _ => rfl) (Nat.le_of_ble_eq_true rfl) (Nat.le_of_ble_eq_true rfl) dX1_copyFrom_12 (fun H locs hP hD hS => ?_)
  have hP : va_P D vwCl (w_X1_copyFrom kc a0 a1 a2 a3 a4 a5 a6 a7 count count2 kind (va_cpy kind kind2 0 0 16) number number2 day day2) H := hP
  have hD : va_D A (w_X1_copyFrom kc a0 a1 a2 a3 a4 a5 a6 a7 count count2 kind (va_cpy kind kind2 0 0 16) number number2 day day2) := hD
  refine lv_aload_n hx hb dX1_copyFrom_15 rfl (lv_at hl 1 rfl) ?_
  refine va_get (D := D) (ci := 1) (v := .ref a2) (C := RX1) (T := TX1) (N := 4) hx hb hts in_X1 hown hK hP 0 rfl rfl 1 (by decide) lk_15 (fun _ h9 => h9) rfl dX1_copyFrom_16 ?_
  refine lv_iconst (v := 0) hx hb dX1_copyFrom_19 (by decide) ?_
  refine lv_aload_n hx hb dX1_copyFrom_20 rfl (lv_at hl 0 rfl) ?_
  refine va_get (D := D) (ci := 1) (v := .ref a6) (C := RX1) (T := TX1) (N := 4) hx hb hts in_X1 hown hK hP 1 rfl rfl 1 (by decide) lk_15 (fun _ h9 => h9) rfl dX1_copyFrom_21 ?_
  refine lv_iconst (v := 0) hx hb dX1_copyFrom_24 (by decide) ?_
  refine lv_bipush (v := 16) hx hb dX1_copyFrom_25 (by decide) ?_
  refine va_copyi hx hb (hml.trans hl.1.symm) hown (hts (.methodLink RX1 28 arraycopyName) (by decide +kernel)) (hts (.native arraycopyName) (by decide +kernel)) (hts (.static arraycopyName) (by decide +kernel)) (hts (.initialized "java/lang/System") (by decide +kernel)) hK hP hD hS 4 5 1 1 rfl rfl rfl rfl rfl (by decide) (by decide) (by decide) (by decide) (by decide) (fun _ _ => rfl) (Nat.le_of_ble_eq_true rfl) (Nat.le_of_ble_eq_true rfl) dX1_copyFrom_27 (fun H locs hP hD hS => ?_)
  have hP : va_P D vwCl (w_X1_copyFrom kc a0 a1 a2 a3 a4 a5 a6 a7 count count2 kind (va_cpy kind kind2 0 0 16) number (va_cpy number number2 0 0 16) day day2) H := hP
  have hD : va_D A (w_X1_copyFrom kc a0 a1 a2 a3 a4 a5 a6 a7 count count2 kind (va_cpy kind kind2 0 0 16) number (va_cpy number number2 0 0 16) day day2) := hD
  refine lv_aload_n hx hb dX1_copyFrom_30 rfl (lv_at hl 1 rfl) ?_
  refine va_get (D := D) (ci := 1) (v := .ref a3) (C := RX1) (T := TX1) (N := 4) hx hb hts in_X1 hown hK hP 0 rfl rfl 2 (by decide) lk_18 (fun _ h9 => h9) rfl dX1_copyFrom_31 ?_
  refine lv_iconst (v := 0) hx hb dX1_copyFrom_34 (by decide) ?_
  refine lv_aload_n hx hb dX1_copyFrom_35 rfl (lv_at hl 0 rfl) ?_
  refine va_get (D := D) (ci := 1) (v := .ref a7) (C := RX1) (T := TX1) (N := 4) hx hb hts in_X1 hown hK hP 1 rfl rfl 2 (by decide) lk_18 (fun _ h9 => h9) rfl dX1_copyFrom_36 ?_
  refine lv_iconst (v := 0) hx hb dX1_copyFrom_39 (by decide) ?_
  refine lv_bipush (v := 16) hx hb dX1_copyFrom_40 (by decide) ?_
  refine va_copyi hx hb (hml.trans hl.1.symm) hown (hts (.methodLink RX1 28 arraycopyName) (by decide +kernel)) (hts (.native arraycopyName) (by decide +kernel)) (hts (.static arraycopyName) (by decide +kernel)) (hts (.initialized "java/lang/System") (by decide +kernel)) hK hP hD hS 6 7 1 1 rfl rfl rfl rfl rfl (by decide) (by decide) (by decide) (by decide) (by decide) (fun _ _ => rfl) (Nat.le_of_ble_eq_true rfl) (Nat.le_of_ble_eq_true rfl) dX1_copyFrom_42 (fun H locs hP hD hS => ?_)
  have hP : va_P D vwCl (w_X1_copyFrom kc a0 a1 a2 a3 a4 a5 a6 a7 count count2 kind (va_cpy kind kind2 0 0 16) number (va_cpy number number2 0 0 16) day (va_cpy day day2 0 0 16)) H := hP
  have hD : va_D A (w_X1_copyFrom kc a0 a1 a2 a3 a4 a5 a6 a7 count count2 kind (va_cpy kind kind2 0 0 16) number (va_cpy number number2 0 0 16) day (va_cpy day day2 0 0 16)) := hD
  refine lv_aload_n hx hb dX1_copyFrom_45 rfl (lv_at hl 0 rfl) ?_
  refine lv_aload_n hx hb dX1_copyFrom_46 rfl (lv_at hl 1 rfl) ?_
  refine va_get (D := D) (ci := 1) (v := .int count) (C := RX1) (T := TX1) (N := 4) hx hb hts in_X1 hown hK hP 0 rfl rfl 3 (by decide) lk_21 (fun _ h9 => h9) rfl dX1_copyFrom_47 ?_
  refine va_put (D := D) (ci := 1) (v := .int count) (ty := .int) (C := RX1) (T := TX1) (N := 4) hx hb hts in_X1 tyX1 tyX1_ok nmX1 hown hK hP hD hS 1 rfl rfl 3 (by decide) lk_21 (fun _ h9 => h9) rfl (by decide +kernel) rfl rfl (Nat.le_of_ble_eq_true rfl) dX1_copyFrom_50 (fun H locs hP hD hS => ?_)
  have hP : va_P D vwCl (w_X1_copyFrom kc a0 a1 a2 a3 a4 a5 a6 a7 count count kind (va_cpy kind kind2 0 0 16) number (va_cpy number number2 0 0 16) day (va_cpy day day2 0 0 16)) H := hP
  have hD : va_D A (w_X1_copyFrom kc a0 a1 a2 a3 a4 a5 a6 a7 count count kind (va_cpy kind kind2 0 0 16) number (va_cpy number number2 0 0 16) day (va_cpy day day2 0 0 16)) := hD
  cases hf
  exact kR _ _ _ _ hP hD hS dX1_copyFrom_53
