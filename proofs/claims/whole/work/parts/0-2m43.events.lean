abbrev xNames : List String := ["java/lang/RuntimeException", "java/lang/Exception"]
abbrev xE : String := "java/lang/IndexOutOfBoundsException"
abbrev xNg : List Cond := [.declares (Bundle.initS "java/lang/RuntimeException"), .declares (Bundle.initS "java/lang/Exception"), .declares (Bundle.initS Bundle.tN), .castable xE xE]
set_option maxRecDepth 100000 in
theorem x_ng : (vx_atS RX8 280 xE xNames).filter (fun w => !goodWord w) = xNg := by decide +kernel
set_option maxRecDepth 100000 in
theorem x_ot : ∀ w ∈ Cond.classLink RX8 276 xE :: Cond.initialized xE :: vx_atS RX8 280 xE xNames, vx_ot w = true := by decide +kernel
/-- what is known of the exception that the class throws -/
def gX (sa : Nat) (A : Nat → Prop) (U : State) (H : Heap) : Prop := vk_R RX8 278 "no such event" sa U ∧ vx_Zq Bundle.tN "UNASSIGNED_STACK" Bundle.steD A U H ∧ vx_Zq Bundle.tN "SUPPRESSED_SENTINEL" Bundle.listD A U H ∧ va_Nw (.declares (Bundle.initS "java/lang/RuntimeException")) U ∧ va_Nw (.declares (Bundle.initS "java/lang/Exception")) U ∧ va_Nw (.declares (Bundle.initS Bundle.tN)) U ∧ va_Nw (.castable xE xE) U
theorem gX.blind {sa : Nat} {A : Nat → Prop} {U : State} {g : JFrame} {mk : MethodId} {a : Array Value} (h : gX sa A U U.heap) : gX sa A (U.calling g mk a) (U.calling g mk a).heap := by
  obtain ⟨h1, h2, h3, h4, h5, h6, h7⟩ := h
  exact ⟨vk_R.same (u := U) (U := U.calling g mk a) rfl h1, vx_Zq.moved (u := U) (U := U.calling g mk a) (Vm.Alike.refl U.vm) h2, vx_Zq.moved (u := U) (U := U.calling g mk a) (Vm.Alike.refl U.vm) h3, va_Nw.same (u := U) (U := U.calling g mk a) rfl rfl h4, va_Nw.same (u := U) (U := U.calling g mk a) rfl rfl h5, va_Nw.same (u := U) (U := U.calling g mk a) rfl rfl h6, va_Nw.same (u := U) (U := U.calling g mk a) rfl rfl h7⟩
theorem gX.at {sa : Nat} {A A1 : Nat → Prop} {s U : State} {H : Heap} {locs : List Loc} (h : gX sa A s s.heap) (hS : va_S A s.heap H locs) (hA : ∀ q, A1 q → A q) (hU : U.heap = H) (hW : s.WarmedH U.vm) : gX sa A1 U U.heap := by
  obtain ⟨h1, h2, h3, h4, h5, h6, h7⟩ := h
  rw [hU]
  exact ⟨vk_R.warm hW h1, vx_Zq.moved hW.alike ((h2.kept hS.2.1).narrow hA), vx_Zq.moved hW.alike ((h3.kept hS.2.1).narrow hA), va_Nw.warmD hW h4, va_Nw.warmD hW h5, va_Nw.warmD hW h6, va_Nw.warmC hW h7⟩
def gPreX (D : va_G) (kc : Nat → ClassId) (sa : Nat) (ws : va_W) (sz : Nat) (U : State) : Prop := gPre D kc ws sz U ∧ gX sa (va_A ws sz) U U.heap
theorem gPreX_blind (av : List Value) (D : va_G) (kc : Nat → ClassId) (sa : Nat) (ws : va_W) (sz : Nat) : FrameBlind (va_Pc av (gPreX D kc sa ws sz)) := by
  intro a U g mk h
  obtain ⟨h0, h1, h2⟩ := h
  have h3 := gPre_blind av D kc ws sz a U g mk ⟨h0, h1⟩
  exact ⟨h0, h3.2, h2.blind⟩
/-- a method that answers r (if ok) or throws (if not) -/
def MX (l : Launch) (y : MethodName) (wl : List Cond) (rm : Room) (D : va_G) (kc : Nat → ClassId) (sa : Nat) (av : List Value) (ws : va_W) (ok : Prop) (r : Int32) : Prop := ∀ sz : Nat, vx_Met l y wl rm (va_Pc av (gPreX D kc sa ws sz)) (va_Qi (fun (r' : Int32) (_ : Unit) => ok ∧ r' = r) (fun _ t => gPost D kc (va_A ws sz) ws t) (va_A ws sz)) (vx_X (fun (_ : Unit) => ¬ ok) (fun E _ t => E = xE ∧ gPost D kc (va_A ws sz) ws t) (va_A ws sz)) 1 6 (va_A ws sz)
theorem Met_ofWH {l : Launch} {y : MethodName} {ws ws' : List Cond} {rm : Room} {Pc : Array Value → State → Prop} {Qc : Array Value → State → Outcome → State → Prop} {mc ms : Nat} {free : Addr → Prop} {cc : ByteArray} {maxL : Nat} {ret : Option FieldType} {hh : List (Nat × Nat × Nat × Nat)}
    (hy : plainName y.cls = true) (hw : ws = Cond.codeWith y cc maxL ret hh :: ws')
    (body : ∀ p e s m args below meth c s₁, BodyLoose p l y (headSpec ws rm) cc maxL ret e s m args below meth c s₁ → c.maxLocals = maxL → Pc args s →
      W p l e (headSpec ws rm).room s m args below meth c s.heap [] 0 0 (MQ below Qc args s mc ms free) (entryFrame m args maxL)) : Met l y ws rm Pc Qc mc ms free := by
  refine MetFree.of_bodyS (code := cc) (maxLocals := maxL) (ret := ret) hy ?_ ?_
  · intro args s m h hn
    obtain ⟨m9, meth, c, hn9, h1, h2, h3, h4, -, h5, h6, -⟩ := Cond.codeWith_spec (atoms_spec (ws := ws) h _ (by rw [hw]; exact List.mem_cons_self))
    cases hn.symm.trans hn9
    exact ⟨meth, c, h1, h2, h3, h4, h5, h6⟩
  · intro p e s m args below meth c s₁ B hml hP _
    have hh0 : s₁.heap = s.heap := by rw [B.state]; rfl
    obtain ⟨t, a1, o, b1, b2, b3, b4⟩ := body p e s m args below meth c s₁ B hml hP s₁ hh0 (Stand.of_body B)
    exact ⟨t, o, a1, b1, b2, b3, b4⟩
abbrev w_X8_eventKind (kc : Nat → ClassId) (a0 a1 a2 a3 a4 a5 a6 a7 a8 a9 a10 a11 a12 a13 a14 a15 a16 a17 a18 a19 a20 a21 a22 a23 : Nat) (textLength : Int32) (errorPlace : Int32) (undoable : Int32) (newest : Int32) (day : Int32) (wind : Int32) (loft : Int32) (lost : Int32) (launchCount : Int32) (drawState : Int64) (count : Int32) (row : Nat → Int32) : va_W := [(a0, .inr (8, [.ref a1, .ref a2, .ref a3, .ref a4, .ref a5, .ref a6, .ref a7, .ref a8, .ref a9, .int textLength, .int errorPlace, .int undoable, .int newest, .ref a10, .ref a11])), (a6, .inr (6, [.ref a12, .ref a13, .ref a14, .ref a15, .ref a16, .ref a17, .int day, .int wind, .int loft, .int lost, .ref a18, .ref a19, .ref a20, .int launchCount, .long drawState])), (a12, .inr (1, [.ref a21, .ref a22, .ref a23, .int count])), (a21, .inl (kc 1, 16, .inl row))]
set_option maxHeartbeats 4000000 in
set_option maxRecDepth 100000 in
theorem x_X8_eventKind (l : Launch) (hst : l.stackTraces = false) (D : va_G) (kc : Nat → ClassId) (sa N : Nat) (a0 a1 a2 a3 a4 a5 a6 a7 a8 a9 a10 a11 a12 a13 a14 a15 a16 a17 a18 a19 a20 a21 a22 a23 : Nat) (textLength : Int32) (errorPlace : Int32) (undoable : Int32) (newest : Int32) (day : Int32) (wind : Int32) (loft : Int32) (lost : Int32) (launchCount : Int32) (drawState : Int64) (count : Int32) (row : Nat → Int32) (x1 rz : Int32) (hf : f_X1_has N count x1 = some rz) (hin : ¬ rz = 0 → vp_in x1 16) : MX l yX8_eventKind wsX8_eventKind ({ frames := 6, cells := 1, slots := 6, locals := 90 }) D kc sa [.ref a0, .int x1] (w_X8_eventKind kc a0 a1 a2 a3 a4 a5 a6 a7 a8 a9 a10 a11 a12 a13 a14 a15 a16 a17 a18 a19 a20 a21 a22 a23 textLength errorPlace undoable newest day wind loft lost launchCount drawState count row) (¬ rz = 0) (row x1.toNatClampNeg) := by
  intro sz
  refine vx_ofW (cc := cX8_eventKind) (maxL := 2) (ret := (some .int)) (by decide) rfl ?_
  intro p e s m args below meth c s₁ B hml hnt hv
  obtain ⟨rfl, ⟨hsz, hP, hK, hD0, hN⟩, hG⟩ := hv
  have hr := B.returns
  have hlocks := B.notSynchronized
  have hx := B.exec
  have hb := B.bytes
  have hts := atoms_spec (ws := wsX8_eventKind) B.pre
  have hown : s.vm.findClass RX8 = some m.cls := findClass_of_methodNamed B.named
  subst hsz
  have hD := hD0.self (sz := s.heap.size)
  obtain ⟨A, hAe⟩ : ∃ A, va_A (w_X8_eventKind kc a0 a1 a2 a3 a4 a5 a6 a7 a8 a9 a10 a11 a12 a13 a14 a15 a16 a17 a18 a19 a20 a21 a22 a23 textLength errorPlace undoable newest day wind loft lost launchCount drawState count row) s.heap.size = A := ⟨_, rfl⟩
  rw [hAe] at hD hG ⊢
  have hA : ∀ q : Nat, s.heap.size ≤ q → A q := fun q h => by rw [← hAe]; exact Or.inr h
  have hS : va_S A s.heap s.heap [] := va_S.rf
  have hl := lv_entry [.ref a0, .int x1] (n := 2) (Nat.le_of_ble_eq_true rfl)
  rw [lg_entry_eq]
  generalize (lg_sl [.ref a0, .int x1] ++ List.replicate (2 - (lg_sl [.ref a0, .int x1]).length) Slot.unset).toArray = ls at hl ⊢
  have hl : lv_has ls 2 [(0, .ref a0), (1, .int x1)] := hl
  have in_X8 : ∀ w ∈ u_ws RX8 TX8 15, w ∈ wsX8_eventKind := by decide +kernel
  have in_X6 : ∀ w ∈ u_ws RX6 TX6 15, w ∈ wsX8_eventKind := by decide +kernel
  have in_X1 : ∀ w ∈ u_ws RX1 TX1 4, w ∈ wsX8_eventKind := by decide +kernel
  have lk_44 := hts (.fieldLink RX8 44 "BalloonMail" "current" "LBalloonMail$State;") (by decide +kernel)
  have lk_268 := hts (.fieldLink RX8 268 "BalloonMail$State" "journal" "LBalloonMail$Journal;") (by decide +kernel)
  have lk_f := hts (.fieldLink RX8 283 "BalloonMail$Journal" "kind" "[I") (by decide +kernel)
  refine lv_aload_n hx hb dX8_eventKind_0 rfl (lv_at hl 0 rfl) ?_
  refine va_get (D := D) (ci := 8) (v := .ref a6) (C := RX8) (T := TX8) (N := 15) hx hb hts in_X8 hown hK hP 0 rfl rfl 5 (by decide) lk_44 (fun _ h9 => h9) rfl dX8_eventKind_1 ?_
  refine va_get (D := D) (ci := 6) (v := .ref a12) (C := RX6) (T := TX6) (N := 15) hx hb hts in_X6 hown hK hP 1 rfl rfl 0 (by decide) lk_268 (fun _ h9 => h9) rfl dX8_eventKind_4 ?_
  refine lv_iload_n hx hb dX8_eventKind_7 rfl (lv_at hl 1 rfl) ?_
  refine g_VZ (R := ({ frames := 6, cells := 1, slots := 6, locals := 90 })) (As := [.int x1]) (rest := []) (ws' := (w_X8_eventKind kc a0 a1 a2 a3 a4 a5 a6 a7 a8 a9 a10 a11 a12 a13 a14 a15 a16 a17 a18 a19 a20 a21 a22 a23 textLength errorPlace undoable newest day wind loft lost launchCount drawState count row)) ⟨hx, hb, hml, hown, hts⟩ hN hK hP hD hS hA (c_X1_has l D kc N a12 a21 a22 a23 count x1 rz hf) (cwV 1 hts gX8_eventKind_X1_has rfl rfl rfl (by decide +kernel) ⟨Nat.le_of_ble_eq_true rfl, Nat.le_of_ble_eq_true rfl⟩) [2] [0, 1, 3] [0, 1, 3, 2] (by exact ⟨rfl, rfl, by decide, rfl⟩) 2 1 rfl rfl rfl rfl hl.1 rfl (Nat.le_of_ble_eq_true rfl) dX8_eventKind_8 ⟨Nat.le_of_ble_eq_true rfl, Nat.le_of_ble_eq_true rfl⟩ (fun H locs hz hP hD hS => ?_)
  refine lv_if_ne (tgt := 25) hx hb dX8_eventKind_11 (by decide) (fun hc => ?_) (fun hc => ?_)
  · refine lv_aload_n hx hb dX8_eventKind_25 rfl (lv_at hl 0 rfl) ?_
    refine va_get (D := D) (ci := 8) (v := .ref a6) (C := RX8) (T := TX8) (N := 15) hx hb hts in_X8 hown hK hP 0 rfl rfl 5 (by decide) lk_44 (fun _ h9 => h9) rfl dX8_eventKind_26 ?_
    refine va_get (D := D) (ci := 6) (v := .ref a12) (C := RX6) (T := TX6) (N := 15) hx hb hts in_X6 hown hK hP 1 rfl rfl 0 (by decide) lk_268 (fun _ h9 => h9) rfl dX8_eventKind_29 ?_
    refine va_get (D := D) (ci := 1) (v := .ref a21) (C := RX1) (T := TX1) (N := 4) hx hb hts in_X1 hown hK hP 2 rfl rfl 0 (by decide) lk_f (fun _ h9 => h9) rfl dX8_eventKind_32 ?_
    refine lv_iload_n hx hb dX8_eventKind_35 rfl (lv_at hl 1 rfl) ?_
    refine va_iald hx hb hK hP 3 1 rfl rfl (hin hc) dX8_eventKind_36 ?_
    refine W.widen (k := 1) (n := 6) (by omega) (by omega) ?_
    refine vx_ret ?_
    exact W.iret (v := row x1.toNatClampNeg) hx hb hr (fun t ht hW => ⟨⟨_, (), rfl, ⟨hc, rfl⟩, by rw [ht]; exact hP, va_K.moved hW.alike hK, hD⟩, hS.F ht⟩) hS.2.2 dX8_eventKind_37 hlocks
  · refine vx_throwSW (own := RX8) (cls := xE) (text := "no such event") (names := xNames) (ik := 276) (ic := 280) (sa := sa) (A := A) hx hb hst hown (by decide) (by decide) (hts (.classLink RX8 276 xE) (by decide +kernel)) (hts (.initialized xE) (by decide +kernel)) hG.1 (vx_hat (B := xNg) (fun w hw => hts w (List.mem_cons_of_mem _ (List.mem_append_right _ hw))) (fun w hw => by rw [← x_ng]; exact hw) (vx_c (va_Nw.use rfl hG.2.2.2.1) (vx_c (va_Nw.use rfl hG.2.2.2.2.1) (vx_c (va_Nw.use rfl hG.2.2.2.2.2.1) (vx_c (va_Nw.use rfl hG.2.2.2.2.2.2) vx_n))))) x_ot hG.2.1 hG.2.2.1 hS (hl.1.trans hml.symm) dX8_eventKind_14 dX8_eventKind_17 dX8_eventKind_18 dX8_eventKind_21 dX8_eventKind_24 (fun x hx9 => (hnt x hx9).elim) (Nat.le_of_ble_eq_true rfl) (Nat.le_of_ble_eq_true rfl) (Nat.le_of_ble_eq_true rfl) (Nat.le_of_ble_eq_true rfl) hlocks ?_ hS.2.2 (Nat.le_of_ble_eq_true rfl) (Nat.le_of_ble_eq_true rfl)
    intro t hal hsz hsame
    refine ⟨(), fun hn => hn hc, ⟨rfl, hP.kept (fun k q hk => hsame q.1 (hP k q hk).lt), va_K.moved hal hK, hD⟩, Nat.le_trans hS.1 hsz, fun q hq hn => ?_⟩
    rw [hsame q (Nat.lt_of_lt_of_le hq hS.1)]
    exact hS.2.1 q hq hn
abbrev w_X8_eventNumber (kc : Nat → ClassId) (a0 a1 a2 a3 a4 a5 a6 a7 a8 a9 a10 a11 a12 a13 a14 a15 a16 a17 a18 a19 a20 a21 a22 a23 : Nat) (textLength : Int32) (errorPlace : Int32) (undoable : Int32) (newest : Int32) (day : Int32) (wind : Int32) (loft : Int32) (lost : Int32) (launchCount : Int32) (drawState : Int64) (count : Int32) (row : Nat → Int32) : va_W := [(a0, .inr (8, [.ref a1, .ref a2, .ref a3, .ref a4, .ref a5, .ref a6, .ref a7, .ref a8, .ref a9, .int textLength, .int errorPlace, .int undoable, .int newest, .ref a10, .ref a11])), (a6, .inr (6, [.ref a12, .ref a13, .ref a14, .ref a15, .ref a16, .ref a17, .int day, .int wind, .int loft, .int lost, .ref a18, .ref a19, .ref a20, .int launchCount, .long drawState])), (a12, .inr (1, [.ref a21, .ref a22, .ref a23, .int count])), (a22, .inl (kc 1, 16, .inl row))]
set_option maxHeartbeats 4000000 in
set_option maxRecDepth 100000 in
theorem x_X8_eventNumber (l : Launch) (hst : l.stackTraces = false) (D : va_G) (kc : Nat → ClassId) (sa N : Nat) (a0 a1 a2 a3 a4 a5 a6 a7 a8 a9 a10 a11 a12 a13 a14 a15 a16 a17 a18 a19 a20 a21 a22 a23 : Nat) (textLength : Int32) (errorPlace : Int32) (undoable : Int32) (newest : Int32) (day : Int32) (wind : Int32) (loft : Int32) (lost : Int32) (launchCount : Int32) (drawState : Int64) (count : Int32) (row : Nat → Int32) (x1 rz : Int32) (hf : f_X1_has N count x1 = some rz) (hin : ¬ rz = 0 → vp_in x1 16) : MX l yX8_eventNumber wsX8_eventNumber ({ frames := 6, cells := 1, slots := 6, locals := 90 }) D kc sa [.ref a0, .int x1] (w_X8_eventNumber kc a0 a1 a2 a3 a4 a5 a6 a7 a8 a9 a10 a11 a12 a13 a14 a15 a16 a17 a18 a19 a20 a21 a22 a23 textLength errorPlace undoable newest day wind loft lost launchCount drawState count row) (¬ rz = 0) (row x1.toNatClampNeg) := by
  intro sz
  refine vx_ofW (cc := cX8_eventNumber) (maxL := 2) (ret := (some .int)) (by decide) rfl ?_
  intro p e s m args below meth c s₁ B hml hnt hv
  obtain ⟨rfl, ⟨hsz, hP, hK, hD0, hN⟩, hG⟩ := hv
  have hr := B.returns
  have hlocks := B.notSynchronized
  have hx := B.exec
  have hb := B.bytes
  have hts := atoms_spec (ws := wsX8_eventNumber) B.pre
  have hown : s.vm.findClass RX8 = some m.cls := findClass_of_methodNamed B.named
  subst hsz
  have hD := hD0.self (sz := s.heap.size)
  obtain ⟨A, hAe⟩ : ∃ A, va_A (w_X8_eventNumber kc a0 a1 a2 a3 a4 a5 a6 a7 a8 a9 a10 a11 a12 a13 a14 a15 a16 a17 a18 a19 a20 a21 a22 a23 textLength errorPlace undoable newest day wind loft lost launchCount drawState count row) s.heap.size = A := ⟨_, rfl⟩
  rw [hAe] at hD hG ⊢
  have hA : ∀ q : Nat, s.heap.size ≤ q → A q := fun q h => by rw [← hAe]; exact Or.inr h
  have hS : va_S A s.heap s.heap [] := va_S.rf
  have hl := lv_entry [.ref a0, .int x1] (n := 2) (Nat.le_of_ble_eq_true rfl)
  rw [lg_entry_eq]
  generalize (lg_sl [.ref a0, .int x1] ++ List.replicate (2 - (lg_sl [.ref a0, .int x1]).length) Slot.unset).toArray = ls at hl ⊢
  have hl : lv_has ls 2 [(0, .ref a0), (1, .int x1)] := hl
  have in_X8 : ∀ w ∈ u_ws RX8 TX8 15, w ∈ wsX8_eventNumber := by decide +kernel
  have in_X6 : ∀ w ∈ u_ws RX6 TX6 15, w ∈ wsX8_eventNumber := by decide +kernel
  have in_X1 : ∀ w ∈ u_ws RX1 TX1 4, w ∈ wsX8_eventNumber := by decide +kernel
  have lk_44 := hts (.fieldLink RX8 44 "BalloonMail" "current" "LBalloonMail$State;") (by decide +kernel)
  have lk_268 := hts (.fieldLink RX8 268 "BalloonMail$State" "journal" "LBalloonMail$Journal;") (by decide +kernel)
  have lk_f := hts (.fieldLink RX8 286 "BalloonMail$Journal" "number" "[I") (by decide +kernel)
  refine lv_aload_n hx hb dX8_eventNumber_0 rfl (lv_at hl 0 rfl) ?_
  refine va_get (D := D) (ci := 8) (v := .ref a6) (C := RX8) (T := TX8) (N := 15) hx hb hts in_X8 hown hK hP 0 rfl rfl 5 (by decide) lk_44 (fun _ h9 => h9) rfl dX8_eventNumber_1 ?_
  refine va_get (D := D) (ci := 6) (v := .ref a12) (C := RX6) (T := TX6) (N := 15) hx hb hts in_X6 hown hK hP 1 rfl rfl 0 (by decide) lk_268 (fun _ h9 => h9) rfl dX8_eventNumber_4 ?_
  refine lv_iload_n hx hb dX8_eventNumber_7 rfl (lv_at hl 1 rfl) ?_
  refine g_VZ (R := ({ frames := 6, cells := 1, slots := 6, locals := 90 })) (As := [.int x1]) (rest := []) (ws' := (w_X8_eventNumber kc a0 a1 a2 a3 a4 a5 a6 a7 a8 a9 a10 a11 a12 a13 a14 a15 a16 a17 a18 a19 a20 a21 a22 a23 textLength errorPlace undoable newest day wind loft lost launchCount drawState count row)) ⟨hx, hb, hml, hown, hts⟩ hN hK hP hD hS hA (c_X1_has l D kc N a12 a21 a22 a23 count x1 rz hf) (cwV 1 hts gX8_eventNumber_X1_has rfl rfl rfl (by decide +kernel) ⟨Nat.le_of_ble_eq_true rfl, Nat.le_of_ble_eq_true rfl⟩) [2] [0, 1, 3] [0, 1, 3, 2] (by exact ⟨rfl, rfl, by decide, rfl⟩) 2 1 rfl rfl rfl rfl hl.1 rfl (Nat.le_of_ble_eq_true rfl) dX8_eventNumber_8 ⟨Nat.le_of_ble_eq_true rfl, Nat.le_of_ble_eq_true rfl⟩ (fun H locs hz hP hD hS => ?_)
  refine lv_if_ne (tgt := 25) hx hb dX8_eventNumber_11 (by decide) (fun hc => ?_) (fun hc => ?_)
  · refine lv_aload_n hx hb dX8_eventNumber_25 rfl (lv_at hl 0 rfl) ?_
    refine va_get (D := D) (ci := 8) (v := .ref a6) (C := RX8) (T := TX8) (N := 15) hx hb hts in_X8 hown hK hP 0 rfl rfl 5 (by decide) lk_44 (fun _ h9 => h9) rfl dX8_eventNumber_26 ?_
    refine va_get (D := D) (ci := 6) (v := .ref a12) (C := RX6) (T := TX6) (N := 15) hx hb hts in_X6 hown hK hP 1 rfl rfl 0 (by decide) lk_268 (fun _ h9 => h9) rfl dX8_eventNumber_29 ?_
    refine va_get (D := D) (ci := 1) (v := .ref a22) (C := RX1) (T := TX1) (N := 4) hx hb hts in_X1 hown hK hP 2 rfl rfl 1 (by decide) lk_f (fun _ h9 => h9) rfl dX8_eventNumber_32 ?_
    refine lv_iload_n hx hb dX8_eventNumber_35 rfl (lv_at hl 1 rfl) ?_
    refine va_iald hx hb hK hP 3 1 rfl rfl (hin hc) dX8_eventNumber_36 ?_
    refine W.widen (k := 1) (n := 6) (by omega) (by omega) ?_
    refine vx_ret ?_
    exact W.iret (v := row x1.toNatClampNeg) hx hb hr (fun t ht hW => ⟨⟨_, (), rfl, ⟨hc, rfl⟩, by rw [ht]; exact hP, va_K.moved hW.alike hK, hD⟩, hS.F ht⟩) hS.2.2 dX8_eventNumber_37 hlocks
  · refine vx_throwSW (own := RX8) (cls := xE) (text := "no such event") (names := xNames) (ik := 276) (ic := 280) (sa := sa) (A := A) hx hb hst hown (by decide) (by decide) (hts (.classLink RX8 276 xE) (by decide +kernel)) (hts (.initialized xE) (by decide +kernel)) hG.1 (vx_hat (B := xNg) (fun w hw => hts w (List.mem_cons_of_mem _ (List.mem_append_right _ hw))) (fun w hw => by rw [← x_ng]; exact hw) (vx_c (va_Nw.use rfl hG.2.2.2.1) (vx_c (va_Nw.use rfl hG.2.2.2.2.1) (vx_c (va_Nw.use rfl hG.2.2.2.2.2.1) (vx_c (va_Nw.use rfl hG.2.2.2.2.2.2) vx_n))))) x_ot hG.2.1 hG.2.2.1 hS (hl.1.trans hml.symm) dX8_eventNumber_14 dX8_eventNumber_17 dX8_eventNumber_18 dX8_eventNumber_21 dX8_eventNumber_24 (fun x hx9 => (hnt x hx9).elim) (Nat.le_of_ble_eq_true rfl) (Nat.le_of_ble_eq_true rfl) (Nat.le_of_ble_eq_true rfl) (Nat.le_of_ble_eq_true rfl) hlocks ?_ hS.2.2 (Nat.le_of_ble_eq_true rfl) (Nat.le_of_ble_eq_true rfl)
    intro t hal hsz hsame
    refine ⟨(), fun hn => hn hc, ⟨rfl, hP.kept (fun k q hk => hsame q.1 (hP k q hk).lt), va_K.moved hal hK, hD⟩, Nat.le_trans hS.1 hsz, fun q hq hn => ?_⟩
    rw [hsame q (Nat.lt_of_lt_of_le hq hS.1)]
    exact hS.2.1 q hq hn
abbrev w_X8_eventDay (kc : Nat → ClassId) (a0 a1 a2 a3 a4 a5 a6 a7 a8 a9 a10 a11 a12 a13 a14 a15 a16 a17 a18 a19 a20 a21 a22 a23 : Nat) (textLength : Int32) (errorPlace : Int32) (undoable : Int32) (newest : Int32) (day : Int32) (wind : Int32) (loft : Int32) (lost : Int32) (launchCount : Int32) (drawState : Int64) (count : Int32) (row : Nat → Int32) : va_W := [(a0, .inr (8, [.ref a1, .ref a2, .ref a3, .ref a4, .ref a5, .ref a6, .ref a7, .ref a8, .ref a9, .int textLength, .int errorPlace, .int undoable, .int newest, .ref a10, .ref a11])), (a6, .inr (6, [.ref a12, .ref a13, .ref a14, .ref a15, .ref a16, .ref a17, .int day, .int wind, .int loft, .int lost, .ref a18, .ref a19, .ref a20, .int launchCount, .long drawState])), (a12, .inr (1, [.ref a21, .ref a22, .ref a23, .int count])), (a23, .inl (kc 1, 16, .inl row))]
set_option maxHeartbeats 4000000 in
set_option maxRecDepth 100000 in
theorem x_X8_eventDay (l : Launch) (hst : l.stackTraces = false) (D : va_G) (kc : Nat → ClassId) (sa N : Nat) (a0 a1 a2 a3 a4 a5 a6 a7 a8 a9 a10 a11 a12 a13 a14 a15 a16 a17 a18 a19 a20 a21 a22 a23 : Nat) (textLength : Int32) (errorPlace : Int32) (undoable : Int32) (newest : Int32) (day : Int32) (wind : Int32) (loft : Int32) (lost : Int32) (launchCount : Int32) (drawState : Int64) (count : Int32) (row : Nat → Int32) (x1 rz : Int32) (hf : f_X1_has N count x1 = some rz) (hin : ¬ rz = 0 → vp_in x1 16) : MX l yX8_eventDay wsX8_eventDay ({ frames := 6, cells := 1, slots := 6, locals := 90 }) D kc sa [.ref a0, .int x1] (w_X8_eventDay kc a0 a1 a2 a3 a4 a5 a6 a7 a8 a9 a10 a11 a12 a13 a14 a15 a16 a17 a18 a19 a20 a21 a22 a23 textLength errorPlace undoable newest day wind loft lost launchCount drawState count row) (¬ rz = 0) (row x1.toNatClampNeg) := by
  intro sz
  refine vx_ofW (cc := cX8_eventDay) (maxL := 2) (ret := (some .int)) (by decide) rfl ?_
  intro p e s m args below meth c s₁ B hml hnt hv
  obtain ⟨rfl, ⟨hsz, hP, hK, hD0, hN⟩, hG⟩ := hv
  have hr := B.returns
  have hlocks := B.notSynchronized
  have hx := B.exec
  have hb := B.bytes
  have hts := atoms_spec (ws := wsX8_eventDay) B.pre
  have hown : s.vm.findClass RX8 = some m.cls := findClass_of_methodNamed B.named
  subst hsz
  have hD := hD0.self (sz := s.heap.size)
  obtain ⟨A, hAe⟩ : ∃ A, va_A (w_X8_eventDay kc a0 a1 a2 a3 a4 a5 a6 a7 a8 a9 a10 a11 a12 a13 a14 a15 a16 a17 a18 a19 a20 a21 a22 a23 textLength errorPlace undoable newest day wind loft lost launchCount drawState count row) s.heap.size = A := ⟨_, rfl⟩
  rw [hAe] at hD hG ⊢
  have hA : ∀ q : Nat, s.heap.size ≤ q → A q := fun q h => by rw [← hAe]; exact Or.inr h
  have hS : va_S A s.heap s.heap [] := va_S.rf
  have hl := lv_entry [.ref a0, .int x1] (n := 2) (Nat.le_of_ble_eq_true rfl)
  rw [lg_entry_eq]
  generalize (lg_sl [.ref a0, .int x1] ++ List.replicate (2 - (lg_sl [.ref a0, .int x1]).length) Slot.unset).toArray = ls at hl ⊢
  have hl : lv_has ls 2 [(0, .ref a0), (1, .int x1)] := hl
  have in_X8 : ∀ w ∈ u_ws RX8 TX8 15, w ∈ wsX8_eventDay := by decide +kernel
  have in_X6 : ∀ w ∈ u_ws RX6 TX6 15, w ∈ wsX8_eventDay := by decide +kernel
  have in_X1 : ∀ w ∈ u_ws RX1 TX1 4, w ∈ wsX8_eventDay := by decide +kernel
  have lk_44 := hts (.fieldLink RX8 44 "BalloonMail" "current" "LBalloonMail$State;") (by decide +kernel)
  have lk_268 := hts (.fieldLink RX8 268 "BalloonMail$State" "journal" "LBalloonMail$Journal;") (by decide +kernel)
  have lk_f := hts (.fieldLink RX8 289 "BalloonMail$Journal" "day" "[I") (by decide +kernel)
  refine lv_aload_n hx hb dX8_eventDay_0 rfl (lv_at hl 0 rfl) ?_
  refine va_get (D := D) (ci := 8) (v := .ref a6) (C := RX8) (T := TX8) (N := 15) hx hb hts in_X8 hown hK hP 0 rfl rfl 5 (by decide) lk_44 (fun _ h9 => h9) rfl dX8_eventDay_1 ?_
  refine va_get (D := D) (ci := 6) (v := .ref a12) (C := RX6) (T := TX6) (N := 15) hx hb hts in_X6 hown hK hP 1 rfl rfl 0 (by decide) lk_268 (fun _ h9 => h9) rfl dX8_eventDay_4 ?_
  refine lv_iload_n hx hb dX8_eventDay_7 rfl (lv_at hl 1 rfl) ?_
  refine g_VZ (R := ({ frames := 6, cells := 1, slots := 6, locals := 90 })) (As := [.int x1]) (rest := []) (ws' := (w_X8_eventDay kc a0 a1 a2 a3 a4 a5 a6 a7 a8 a9 a10 a11 a12 a13 a14 a15 a16 a17 a18 a19 a20 a21 a22 a23 textLength errorPlace undoable newest day wind loft lost launchCount drawState count row)) ⟨hx, hb, hml, hown, hts⟩ hN hK hP hD hS hA (c_X1_has l D kc N a12 a21 a22 a23 count x1 rz hf) (cwV 1 hts gX8_eventDay_X1_has rfl rfl rfl (by decide +kernel) ⟨Nat.le_of_ble_eq_true rfl, Nat.le_of_ble_eq_true rfl⟩) [2] [0, 1, 3] [0, 1, 3, 2] (by exact ⟨rfl, rfl, by decide, rfl⟩) 2 1 rfl rfl rfl rfl hl.1 rfl (Nat.le_of_ble_eq_true rfl) dX8_eventDay_8 ⟨Nat.le_of_ble_eq_true rfl, Nat.le_of_ble_eq_true rfl⟩ (fun H locs hz hP hD hS => ?_)
  refine lv_if_ne (tgt := 25) hx hb dX8_eventDay_11 (by decide) (fun hc => ?_) (fun hc => ?_)
  · refine lv_aload_n hx hb dX8_eventDay_25 rfl (lv_at hl 0 rfl) ?_
    refine va_get (D := D) (ci := 8) (v := .ref a6) (C := RX8) (T := TX8) (N := 15) hx hb hts in_X8 hown hK hP 0 rfl rfl 5 (by decide) lk_44 (fun _ h9 => h9) rfl dX8_eventDay_26 ?_
    refine va_get (D := D) (ci := 6) (v := .ref a12) (C := RX6) (T := TX6) (N := 15) hx hb hts in_X6 hown hK hP 1 rfl rfl 0 (by decide) lk_268 (fun _ h9 => h9) rfl dX8_eventDay_29 ?_
    refine va_get (D := D) (ci := 1) (v := .ref a23) (C := RX1) (T := TX1) (N := 4) hx hb hts in_X1 hown hK hP 2 rfl rfl 2 (by decide) lk_f (fun _ h9 => h9) rfl dX8_eventDay_32 ?_
    refine lv_iload_n hx hb dX8_eventDay_35 rfl (lv_at hl 1 rfl) ?_
    refine va_iald hx hb hK hP 3 1 rfl rfl (hin hc) dX8_eventDay_36 ?_
    refine W.widen (k := 1) (n := 6) (by omega) (by omega) ?_
    refine vx_ret ?_
    exact W.iret (v := row x1.toNatClampNeg) hx hb hr (fun t ht hW => ⟨⟨_, (), rfl, ⟨hc, rfl⟩, by rw [ht]; exact hP, va_K.moved hW.alike hK, hD⟩, hS.F ht⟩) hS.2.2 dX8_eventDay_37 hlocks
  · refine vx_throwSW (own := RX8) (cls := xE) (text := "no such event") (names := xNames) (ik := 276) (ic := 280) (sa := sa) (A := A) hx hb hst hown (by decide) (by decide) (hts (.classLink RX8 276 xE) (by decide +kernel)) (hts (.initialized xE) (by decide +kernel)) hG.1 (vx_hat (B := xNg) (fun w hw => hts w (List.mem_cons_of_mem _ (List.mem_append_right _ hw))) (fun w hw => by rw [← x_ng]; exact hw) (vx_c (va_Nw.use rfl hG.2.2.2.1) (vx_c (va_Nw.use rfl hG.2.2.2.2.1) (vx_c (va_Nw.use rfl hG.2.2.2.2.2.1) (vx_c (va_Nw.use rfl hG.2.2.2.2.2.2) vx_n))))) x_ot hG.2.1 hG.2.2.1 hS (hl.1.trans hml.symm) dX8_eventDay_14 dX8_eventDay_17 dX8_eventDay_18 dX8_eventDay_21 dX8_eventDay_24 (fun x hx9 => (hnt x hx9).elim) (Nat.le_of_ble_eq_true rfl) (Nat.le_of_ble_eq_true rfl) (Nat.le_of_ble_eq_true rfl) (Nat.le_of_ble_eq_true rfl) hlocks ?_ hS.2.2 (Nat.le_of_ble_eq_true rfl) (Nat.le_of_ble_eq_true rfl)
    intro t hal hsz hsame
    refine ⟨(), fun hn => hn hc, ⟨rfl, hP.kept (fun k q hk => hsame q.1 (hP k q hk).lt), va_K.moved hal hK, hD⟩, Nat.le_trans hS.1 hsz, fun q hq hn => ?_⟩
    rw [hsame q (Nat.lt_of_lt_of_le hq hS.1)]
    exact hS.2.1 q hq hn
