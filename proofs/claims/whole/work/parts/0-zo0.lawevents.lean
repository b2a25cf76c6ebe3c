set_option maxHeartbeats 4000000 in
set_option maxRecDepth 100000 in
/-- the law's eventKind: 0 and the answer in out, or 1 -/
theorem c_L_eventKind (l : Launch) (hst : l.stackTraces = false) (D : va_G) (kc : Nat → ClassId) (sa N : Nat) (a0 a1 a2 a3 a4 a5 a6 a7 a8 a9 a10 a11 a12 a13 a14 a15 a16 a17 a18 a19 a20 a21 a22 a23 : Nat) (textLength : Int32) (errorPlace : Int32) (undoable : Int32) (newest : Int32) (day : Int32) (wind : Int32) (loft : Int32) (lost : Int32) (launchCount : Int32) (drawState : Int64) (count : Int32) (row : Nat → Int32) (oa : Nat) (ov : Nat → Int64) (x1 rz : Int32) (hf : f_X1_has N count x1 = some rz) (hin : ¬ rz = 0 → vp_in x1 16) (sz : Nat) : Met l yL_eventKind wsL_eventKind ({ frames := 7, cells := 1, slots := 6, locals := 120 }) (va_Pc [.ref a0, .int x1, .ref oa] (gPreX D kc sa (w_X8_eventKind kc a0 a1 a2 a3 a4 a5 a6 a7 a8 a9 a10 a11 a12 a13 a14 a15 a16 a17 a18 a19 a20 a21 a22 a23 textLength errorPlace undoable newest day wind loft lost launchCount drawState count row ++ [(oa, .inl (kc 2, 1, .inr (.inl ov)))]) sz)) (va_Qi (fun (r' : Int32) (o' : Nat → Int64) => (¬ rz = 0 ∧ r' = 0 ∧ o' = vp_updL ov 0 (row x1.toNatClampNeg).toInt64) ∨ (rz = 0 ∧ r' = 1 ∧ o' = ov)) (fun o' t => gPost D kc (va_A (w_X8_eventKind kc a0 a1 a2 a3 a4 a5 a6 a7 a8 a9 a10 a11 a12 a13 a14 a15 a16 a17 a18 a19 a20 a21 a22 a23 textLength errorPlace undoable newest day wind loft lost launchCount drawState count row ++ [(oa, .inl (kc 2, 1, .inr (.inl ov)))]) sz) (w_X8_eventKind kc a0 a1 a2 a3 a4 a5 a6 a7 a8 a9 a10 a11 a12 a13 a14 a15 a16 a17 a18 a19 a20 a21 a22 a23 textLength errorPlace undoable newest day wind loft lost launchCount drawState count row ++ [(oa, .inl (kc 2, 1, .inr (.inl o')))]) t) (va_A (w_X8_eventKind kc a0 a1 a2 a3 a4 a5 a6 a7 a8 a9 a10 a11 a12 a13 a14 a15 a16 a17 a18 a19 a20 a21 a22 a23 textLength errorPlace undoable newest day wind loft lost launchCount drawState count row ++ [(oa, .inl (kc 2, 1, .inr (.inl ov)))]) sz)) 1 6 (va_A (w_X8_eventKind kc a0 a1 a2 a3 a4 a5 a6 a7 a8 a9 a10 a11 a12 a13 a14 a15 a16 a17 a18 a19 a20 a21 a22 a23 textLength errorPlace undoable newest day wind loft lost launchCount drawState count row ++ [(oa, .inl (kc 2, 1, .inr (.inl ov)))]) sz) := by
  refine Met_ofWH (cc := cL_eventKind) (maxL := 4) (ret := (some .int)) (hh := [(0, 9, 12, 13)]) (by decide) rfl ?_
  intro p e s m args below meth c s₁ B hml hv
  obtain ⟨rfl, ⟨hsz, hP, hK, hD0, hN⟩, hG⟩ := hv
  have hr := B.returns
  have hlocks := B.notSynchronized
  have hx := B.exec
  have hb := B.bytes
  have hts := atoms_spec (ws := wsL_eventKind) B.pre
  have hown : s.vm.findClass RL = some m.cls := findClass_of_methodNamed B.named
  have htab : c.exceptionTable.toList = tableOf [(0, 9, 12, 13)] := vx_table (x := yX8_eventKind) B (hts _ List.mem_cons_self)
  subst hsz
  have hD := hD0.self (sz := s.heap.size)
  obtain ⟨A, hAe⟩ : ∃ A, va_A (w_X8_eventKind kc a0 a1 a2 a3 a4 a5 a6 a7 a8 a9 a10 a11 a12 a13 a14 a15 a16 a17 a18 a19 a20 a21 a22 a23 textLength errorPlace undoable newest day wind loft lost launchCount drawState count row ++ [(oa, .inl (kc 2, 1, .inr (.inl ov)))]) s.heap.size = A := ⟨_, rfl⟩
  rw [hAe] at hD hG ⊢
  have hA : ∀ q : Nat, s.heap.size ≤ q → A q := fun q h => by rw [← hAe]; exact Or.inr h
  have hS : va_S A s.heap s.heap [] := va_S.rf
  have hl := lv_entry [.ref a0, .int x1, .ref oa] (n := 4) (Nat.le_of_ble_eq_true rfl)
  rw [lg_entry_eq]
  generalize (lg_sl [.ref a0, .int x1, .ref oa] ++ List.replicate (4 - (lg_sl [.ref a0, .int x1, .ref oa]).length) Slot.unset).toArray = ls at hl ⊢
  have hl : lv_has ls 4 [(0, .ref a0), (1, .int x1), (2, .ref oa)] := hl
  refine lv_aload_n hx hb dL_eventKind_0 rfl (lv_at hl 2 rfl) ?_
  refine lv_iconst (v := 0) hx hb dL_eventKind_1 (by decide) ?_
  refine lv_aload_n hx hb dL_eventKind_2 rfl (lv_at hl 0 rfl) ?_
  refine lv_iload_n hx hb dL_eventKind_3 rfl (lv_at hl 1 rfl) ?_
  have hcut : ∀ wn : va_W, wn = (w_X8_eventKind kc a0 a1 a2 a3 a4 a5 a6 a7 a8 a9 a10 a11 a12 a13 a14 a15 a16 a17 a18 a19 a20 a21 a22 a23 textLength errorPlace undoable newest day wind loft lost launchCount drawState count row) → gCut (w_X8_eventKind kc a0 a1 a2 a3 a4 a5 a6 a7 a8 a9 a10 a11 a12 a13 a14 a15 a16 a17 a18 a19 a20 a21 a22 a23 textLength errorPlace undoable newest day wind loft lost launchCount drawState count row ++ [(oa, .inl (kc 2, 1, .inr (.inl ov)))]) (w_X8_eventKind kc a0 a1 a2 a3 a4 a5 a6 a7 a8 a9 a10 a11 a12 a13 a14 a15 a16 a17 a18 a19 a20 a21 a22 a23 textLength errorPlace undoable newest day wind loft lost launchCount drawState count row) wn (w_X8_eventKind kc a0 a1 a2 a3 a4 a5 a6 a7 a8 a9 a10 a11 a12 a13 a14 a15 a16 a17 a18 a19 a20 a21 a22 a23 textLength errorPlace undoable newest day wind loft lost launchCount drawState count row ++ [(oa, .inl (kc 2, 1, .inr (.inl ov)))]) [0, 1, 2, 3] [4] [1, 2, 3, 4, 0] := by
    intro wn hwn; subst hwn; exact ⟨rfl, rfl, by decide, rfl⟩
  have hcut := hcut _ rfl
  have hPc : va_P D vwCl (w_X8_eventKind kc a0 a1 a2 a3 a4 a5 a6 a7 a8 a9 a10 a11 a12 a13 a14 a15 a16 a17 a18 a19 a20 a21 a22 a23 textLength errorPlace undoable newest day wind loft lost launchCount drawState count row) s.heap := hP.sub [0, 1, 2, 3] rfl
  have hDc : va_D A (w_X8_eventKind kc a0 a1 a2 a3 a4 a5 a6 a7 a8 a9 a10 a11 a12 a13 a14 a15 a16 a17 a18 a19 a20 a21 a22 a23 textLength errorPlace undoable newest day wind loft lost launchCount drawState count row) := hD.sub [0, 1, 2, 3] (by decide) rfl
  have hFc := va_free (wc := (w_X8_eventKind kc a0 a1 a2 a3 a4 a5 a6 a7 a8 a9 a10 a11 a12 a13 a14 a15 a16 a17 a18 a19 a20 a21 a22 a23 textLength errorPlace undoable newest day wind loft lost launchCount drawState count row)) hD hS hA [0, 1, 2, 3] rfl
  refine vx_calli (vx_runV (As := [.int x1]) (rest := [.int 0, .ref oa]) ⟨hx, hb, hml, hown, hts⟩ (x_X8_eventKind l hst D kc sa N a0 a1 a2 a3 a4 a5 a6 a7 a8 a9 a10 a11 a12 a13 a14 a15 a16 a17 a18 a19 a20 a21 a22 a23 textLength errorPlace undoable newest day wind loft lost launchCount drawState count row x1 rz hf hin s.heap.size) (cwV 1 hts gL_eventKind_X8_eventKind rfl rfl rfl (by decide +kernel) ⟨Nat.le_of_ble_eq_true rfl, Nat.le_of_ble_eq_true rfl⟩) ⟨gPreX_blind _ _ _ _ _ _, va_recv (q := (RX8, TX8, 15)) (ci := 8) (q0 := 0) hK hP rfl rfl, fun U hU hW9 => ⟨rfl, ⟨by rw [hU], by rw [hU]; exact hPc, va_K.moved hW9.alike hK, hDc.weaken (fun _ _ _ _ => trivial), gN.warm hW9 hN⟩, hG.at hS hFc hU hW9⟩⟩ rfl rfl hl.1 rfl (lv_room (Nat.le_of_ble_eq_true rfl)) dL_eventKind_4 ⟨Nat.le_of_ble_eq_true rfl, Nat.le_of_ble_eq_true rfl⟩) hS (fun q _ h => hFc q h) hFc (fun q _ h => hFc q h) ?_ ?_
  · intro E ce q9 u t H1 locs1 ht hal hpx hBX hz1 hk1 hS1 hcell hvm hcl
    obtain ⟨hE, hP1, hK1, hD1⟩ := hBX
    subst hE
    rw [ht] at hP1
    obtain ⟨hP2, hD2⟩ := g_world hP hD hcut hk1 hFc hP1 hD1
    refine vx_catch (name := xE) hown [] ⟨0, 9, 12, 13⟩ [] (by rw [htab]; rfl) (fun z hz => by cases hz) (by decide) (by decide) (hts (.classLink RL 13 xE) (by decide +kernel)) (va_Nw.use rfl hG.2.2.2.2.2.2) hcell hvm hcl ?_
    refine lv_astore_n (lv' := [(3, .ref q9), (0, .ref a0), (1, .int x1), (2, .ref oa)]) hx hb dL_eventKind_12 rfl hl (by decide) rfl (fun ls hl => ?_)
    refine lv_iconst (v := 1) hx hb dL_eventKind_13 (by decide) ?_
    exact W.iret (v := 1) hx hb hr (fun t ht hW => ⟨⟨1, ov, rfl, Or.inr ⟨Decidable.of_not_not hpx, rfl, rfl⟩, by rw [ht]; exact hP2, va_K.moved hW.alike hK, hD2⟩, hS1.F ht⟩) hS1.2.2 dL_eventKind_14 hlocks
  · intro r u t H1 locs1 ht hal hpost hB hz1 hk1 hS1
    obtain ⟨hP1, hK1, hD1⟩ := hB
    rw [ht] at hP1
    obtain ⟨hP2, hD2⟩ := g_world hP hD hcut hk1 hFc hP1 hD1
    refine lv_i2l (v := r.toInt64) hx hb dL_eventKind_7 rfl ?_
    refine va_last hx hb hK hP2 hD2 hS1 4 2 rfl rfl (show vp_in 0 1 by unfold vp_in; decide) dL_eventKind_8 (fun H locs hP hD hS => ?_)
    have hP : va_P D vwCl (w_X8_eventKind kc a0 a1 a2 a3 a4 a5 a6 a7 a8 a9 a10 a11 a12 a13 a14 a15 a16 a17 a18 a19 a20 a21 a22 a23 textLength errorPlace undoable newest day wind loft lost launchCount drawState count row ++ [(oa, .inl (kc 2, 1, .inr (.inl (vp_updL ov 0 r.toInt64))))]) H := hP
    have hD : va_D A (w_X8_eventKind kc a0 a1 a2 a3 a4 a5 a6 a7 a8 a9 a10 a11 a12 a13 a14 a15 a16 a17 a18 a19 a20 a21 a22 a23 textLength errorPlace undoable newest day wind loft lost launchCount drawState count row ++ [(oa, .inl (kc 2, 1, .inr (.inl (vp_updL ov 0 r.toInt64))))]) := hD
    refine lv_goto (tgt := 15) hx hb dL_eventKind_9 (by decide) ?_
    refine lv_iconst (v := 0) hx hb dL_eventKind_15 (by decide) ?_
    exact W.iret (v := 0) hx hb hr (fun t ht hW => ⟨⟨0, _, rfl, Or.inl ⟨hpost.1, rfl, by rw [hpost.2]⟩, by rw [ht]; exact hP, va_K.moved hW.alike hK, hD⟩, hS.F ht⟩) hS.2.2 dL_eventKind_16 hlocks
set_option maxHeartbeats 4000000 in
set_option maxRecDepth 100000 in
/-- the law's eventNumber: 0 and the answer in out, or 1 -/
theorem c_L_eventNumber (l : Launch) (hst : l.stackTraces = false) (D : va_G) (kc : Nat → ClassId) (sa N : Nat) (a0 a1 a2 a3 a4 a5 a6 a7 a8 a9 a10 a11 a12 a13 a14 a15 a16 a17 a18 a19 a20 a21 a22 a23 : Nat) (textLength : Int32) (errorPlace : Int32) (undoable : Int32) (newest : Int32) (day : Int32) (wind : Int32) (loft : Int32) (lost : Int32) (launchCount : Int32) (drawState : Int64) (count : Int32) (row : Nat → Int32) (oa : Nat) (ov : Nat → Int64) (x1 rz : Int32) (hf : f_X1_has N count x1 = some rz) (hin : ¬ rz = 0 → vp_in x1 16) (sz : Nat) : Met l yL_eventNumber wsL_eventNumber ({ frames := 7, cells := 1, slots := 6, locals := 120 }) (va_Pc [.ref a0, .int x1, .ref oa] (gPreX D kc sa (w_X8_eventNumber kc a0 a1 a2 a3 a4 a5 a6 a7 a8 a9 a10 a11 a12 a13 a14 a15 a16 a17 a18 a19 a20 a21 a22 a23 textLength errorPlace undoable newest day wind loft lost launchCount drawState count row ++ [(oa, .inl (kc 2, 1, .inr (.inl ov)))]) sz)) (va_Qi (fun (r' : Int32) (o' : Nat → Int64) => (¬ rz = 0 ∧ r' = 0 ∧ o' = vp_updL ov 0 (row x1.toNatClampNeg).toInt64) ∨ (rz = 0 ∧ r' = 1 ∧ o' = ov)) (fun o' t => gPost D kc (va_A (w_X8_eventNumber kc a0 a1 a2 a3 a4 a5 a6 a7 a8 a9 a10 a11 a12 a13 a14 a15 a16 a17 a18 a19 a20 a21 a22 a23 textLength errorPlace undoable newest day wind loft lost launchCount drawState count row ++ [(oa, .inl (kc 2, 1, .inr (.inl ov)))]) sz) (w_X8_eventNumber kc a0 a1 a2 a3 a4 a5 a6 a7 a8 a9 a10 a11 a12 a13 a14 a15 a16 a17 a18 a19 a20 a21 a22 a23 textLength errorPlace undoable newest day wind loft lost launchCount drawState count row ++ [(oa, .inl (kc 2, 1, .inr (.inl o')))]) t) (va_A (w_X8_eventNumber kc a0 a1 a2 a3 a4 a5 a6 a7 a8 a9 a10 a11 a12 a13 a14 a15 a16 a17 a18 a19 a20 a21 a22 a23 textLength errorPlace undoable newest day wind loft lost launchCount drawState count row ++ [(oa, .inl (kc 2, 1, .inr (.inl ov)))]) sz)) 1 6 (va_A (w_X8_eventNumber kc a0 a1 a2 a3 a4 a5 a6 a7 a8 a9 a10 a11 a12 a13 a14 a15 a16 a17 a18 a19 a20 a21 a22 a23 textLength errorPlace undoable newest day wind loft lost launchCount drawState count row ++ [(oa, .inl (kc 2, 1, .inr (.inl ov)))]) sz) := by
  refine Met_ofWH (cc := cL_eventNumber) (maxL := 4) (ret := (some .int)) (hh := [(0, 9, 12, 13)]) (by decide) rfl ?_
  intro p e s m args below meth c s₁ B hml hv
  obtain ⟨rfl, ⟨hsz, hP, hK, hD0, hN⟩, hG⟩ := hv
  have hr := B.returns
  have hlocks := B.notSynchronized
  have hx := B.exec
  have hb := B.bytes
  have hts := atoms_spec (ws := wsL_eventNumber) B.pre
  have hown : s.vm.findClass RL = some m.cls := findClass_of_methodNamed B.named
  have htab : c.exceptionTable.toList = tableOf [(0, 9, 12, 13)] := vx_table (x := yX8_eventKind) B (hts _ List.mem_cons_self)
  subst hsz
  have hD := hD0.self (sz := s.heap.size)
  obtain ⟨A, hAe⟩ : ∃ A, va_A (w_X8_eventNumber kc a0 a1 a2 a3 a4 a5 a6 a7 a8 a9 a10 a11 a12 a13 a14 a15 a16 a17 a18 a19 a20 a21 a22 a23 textLength errorPlace undoable newest day wind loft lost launchCount drawState count row ++ [(oa, .inl (kc 2, 1, .inr (.inl ov)))]) s.heap.size = A := ⟨_, rfl⟩
  rw [hAe] at hD hG ⊢
  have hA : ∀ q : Nat, s.heap.size ≤ q → A q := fun q h => by rw [← hAe]; exact Or.inr h
  have hS : va_S A s.heap s.heap [] := va_S.rf
  have hl := lv_entry [.ref a0, .int x1, .ref oa] (n := 4) (Nat.le_of_ble_eq_true rfl)
  rw [lg_entry_eq]
  generalize (lg_sl [.ref a0, .int x1, .ref oa] ++ List.replicate (4 - (lg_sl [.ref a0, .int x1, .ref oa]).length) Slot.unset).toArray = ls at hl ⊢
  have hl : lv_has ls 4 [(0, .ref a0), (1, .int x1), (2, .ref oa)] := hl
  refine lv_aload_n hx hb dL_eventNumber_0 rfl (lv_at hl 2 rfl) ?_
  refine lv_iconst (v := 0) hx hb dL_eventNumber_1 (by decide) ?_
  refine lv_aload_n hx hb dL_eventNumber_2 rfl (lv_at hl 0 rfl) ?_
  refine lv_iload_n hx hb dL_eventNumber_3 rfl (lv_at hl 1 rfl) ?_
  have hcut : ∀ wn : va_W, wn = (w_X8_eventNumber kc a0 a1 a2 a3 a4 a5 a6 a7 a8 a9 a10 a11 a12 a13 a14 a15 a16 a17 a18 a19 a20 a21 a22 a23 textLength errorPlace undoable newest day wind loft lost launchCount drawState count row) → gCut (w_X8_eventNumber kc a0 a1 a2 a3 a4 a5 a6 a7 a8 a9 a10 a11 a12 a13 a14 a15 a16 a17 a18 a19 a20 a21 a22 a23 textLength errorPlace undoable newest day wind loft lost launchCount drawState count row ++ [(oa, .inl (kc 2, 1, .inr (.inl ov)))]) (w_X8_eventNumber kc a0 a1 a2 a3 a4 a5 a6 a7 a8 a9 a10 a11 a12 a13 a14 a15 a16 a17 a18 a19 a20 a21 a22 a23 textLength errorPlace undoable newest day wind loft lost launchCount drawState count row) wn (w_X8_eventNumber kc a0 a1 a2 a3 a4 a5 a6 a7 a8 a9 a10 a11 a12 a13 a14 a15 a16 a17 a18 a19 a20 a21 a22 a23 textLength errorPlace undoable newest day wind loft lost launchCount drawState count row ++ [(oa, .inl (kc 2, 1, .inr (.inl ov)))]) [0, 1, 2, 3] [4] [1, 2, 3, 4, 0] := by
    intro wn hwn; subst hwn; exact ⟨rfl, rfl, by decide, rfl⟩
  have hcut := hcut _ rfl
  have hPc : va_P D vwCl (w_X8_eventNumber kc a0 a1 a2 a3 a4 a5 a6 a7 a8 a9 a10 a11 a12 a13 a14 a15 a16 a17 a18 a19 a20 a21 a22 a23 textLength errorPlace undoable newest day wind loft lost launchCount drawState count row) s.heap := hP.sub [0, 1, 2, 3] rfl
  have hDc : va_D A (w_X8_eventNumber kc a0 a1 a2 a3 a4 a5 a6 a7 a8 a9 a10 a11 a12 a13 a14 a15 a16 a17 a18 a19 a20 a21 a22 a23 textLength errorPlace undoable newest day wind loft lost launchCount drawState count row) := hD.sub [0, 1, 2, 3] (by decide) rfl
  have hFc := va_free (wc := (w_X8_eventNumber kc a0 a1 a2 a3 a4 a5 a6 a7 a8 a9 a10 a11 a12 a13 a14 a15 a16 a17 a18 a19 a20 a21 a22 a23 textLength errorPlace undoable newest day wind loft lost launchCount drawState count row)) hD hS hA [0, 1, 2, 3] rfl
  refine vx_calli (vx_runV (As := [.int x1]) (rest := [.int 0, .ref oa]) ⟨hx, hb, hml, hown, hts⟩ (x_X8_eventNumber l hst D kc sa N a0 a1 a2 a3 a4 a5 a6 a7 a8 a9 a10 a11 a12 a13 a14 a15 a16 a17 a18 a19 a20 a21 a22 a23 textLength errorPlace undoable newest day wind loft lost launchCount drawState count row x1 rz hf hin s.heap.size) (cwV 1 hts gL_eventNumber_X8_eventNumber rfl rfl rfl (by decide +kernel) ⟨Nat.le_of_ble_eq_true rfl, Nat.le_of_ble_eq_true rfl⟩) ⟨gPreX_blind _ _ _ _ _ _, va_recv (q := (RX8, TX8, 15)) (ci := 8) (q0 := 0) hK hP rfl rfl, fun U hU hW9 => ⟨rfl, ⟨by rw [hU], by rw [hU]; exact hPc, va_K.moved hW9.alike hK, hDc.weaken (fun _ _ _ _ => trivial), gN.warm hW9 hN⟩, hG.at hS hFc hU hW9⟩⟩ rfl rfl hl.1 rfl (lv_room (Nat.le_of_ble_eq_true rfl)) dL_eventNumber_4 ⟨Nat.le_of_ble_eq_true rfl, Nat.le_of_ble_eq_true rfl⟩) hS (fun q _ h => hFc q h) hFc (fun q _ h => hFc q h) ?_ ?_
  · intro E ce q9 u t H1 locs1 ht hal hpx hBX hz1 hk1 hS1 hcell hvm hcl
    obtain ⟨hE, hP1, hK1, hD1⟩ := hBX
    subst hE
    rw [ht] at hP1
    obtain ⟨hP2, hD2⟩ := g_world hP hD hcut hk1 hFc hP1 hD1
    refine vx_catch (name := xE) hown [] ⟨0, 9, 12, 13⟩ [] (by rw [htab]; rfl) (fun z hz => by cases hz) (by decide) (by decide) (hts (.classLink RL 13 xE) (by decide +kernel)) (va_Nw.use rfl hG.2.2.2.2.2.2) hcell hvm hcl ?_
    refine lv_astore_n (lv' := [(3, .ref q9), (0, .ref a0), (1, .int x1), (2, .ref oa)]) hx hb dL_eventNumber_12 rfl hl (by decide) rfl (fun ls hl => ?_)
    refine lv_iconst (v := 1) hx hb dL_eventNumber_13 (by decide) ?_
    exact W.iret (v := 1) hx hb hr (fun t ht hW => ⟨⟨1, ov, rfl, Or.inr ⟨Decidable.of_not_not hpx, rfl, rfl⟩, by rw [ht]; exact hP2, va_K.moved hW.alike hK, hD2⟩, hS1.F ht⟩) hS1.2.2 dL_eventNumber_14 hlocks
  · intro r u t H1 locs1 ht hal hpost hB hz1 hk1 hS1
    obtain ⟨hP1, hK1, hD1⟩ := hB
    rw [ht] at hP1
    obtain ⟨hP2, hD2⟩ := g_world hP hD hcut hk1 hFc hP1 hD1
    refine lv_i2l (v := r.toInt64) hx hb dL_eventNumber_7 rfl ?_
    refine va_last hx hb hK hP2 hD2 hS1 4 2 rfl rfl (show vp_in 0 1 by unfold vp_in; decide) dL_eventNumber_8 (fun H locs hP hD hS => ?_)
    have hP : va_P D vwCl (w_X8_eventNumber kc a0 a1 a2 a3 a4 a5 a6 a7 a8 a9 a10 a11 a12 a13 a14 a15 a16 a17 a18 a19 a20 a21 a22 a23 textLength errorPlace undoable newest day wind loft lost launchCount drawState count row ++ [(oa, .inl (kc 2, 1, .inr (.inl (vp_updL ov 0 r.toInt64))))]) H := hP
    have hD : va_D A (w_X8_eventNumber kc a0 a1 a2 a3 a4 a5 a6 a7 a8 a9 a10 a11 a12 a13 a14 a15 a16 a17 a18 a19 a20 a21 a22 a23 textLength errorPlace undoable newest day wind loft lost launchCount drawState count row ++ [(oa, .inl (kc 2, 1, .inr (.inl (vp_updL ov 0 r.toInt64))))]) := hD
    refine lv_goto (tgt := 15) hx hb dL_eventNumber_9 (by decide) ?_
    refine lv_iconst (v := 0) hx hb dL_eventNumber_15 (by decide) ?_
    exact W.iret (v := 0) hx hb hr (fun t ht hW => ⟨⟨0, _, rfl, Or.inl ⟨hpost.1, rfl, by rw [hpost.2]⟩, by rw [ht]; exact hP, va_K.moved hW.alike hK, hD⟩, hS.F ht⟩) hS.2.2 dL_eventNumber_16 hlocks
set_option maxHeartbeats 4000000 in
set_option maxRecDepth 100000 in
/-- the law's eventDay: 0 and the answer in out, or 1 -/
theorem c_L_eventDay (l : Launch) (hst : l.stackTraces = false) (D : va_G) (kc : Nat → ClassId) (sa N : Nat) (a0 a1 a2 a3 a4 a5 a6 a7 a8 a9 a10 a11 a12 a13 a14 a15 a16 a17 a18 a19 a20 a21 a22 a23 : Nat) (textLength : Int32) (errorPlace : Int32) (undoable : Int32) (newest : Int32) (day : Int32) (wind : Int32) (loft : Int32) (lost : Int32) (launchCount : Int32) (drawState : Int64) (count : Int32) (row : Nat → Int32) (oa : Nat) (ov : Nat → Int64) (x1 rz : Int32) (hf : f_X1_has N count x1 = some rz) (hin : ¬ rz = 0 → vp_in x1 16) (sz : Nat) : Met l yL_eventDay wsL_eventDay ({ frames := 7, cells := 1, slots := 6, locals := 120 }) (va_Pc [.ref a0, .int x1, .ref oa] (gPreX D kc sa (w_X8_eventDay kc a0 a1 a2 a3 a4 a5 a6 a7 a8 a9 a10 a11 a12 a13 a14 a15 a16 a17 a18 a19 a20 a21 a22 a23 textLength errorPlace undoable newest day wind loft lost launchCount drawState count row ++ [(oa, .inl (kc 2, 1, .inr (.inl ov)))]) sz)) (va_Qi (fun (r' : Int32) (o' : Nat → Int64) => (¬ rz = 0 ∧ r' = 0 ∧ o' = vp_updL ov 0 (row x1.toNatClampNeg).toInt64) ∨ (rz = 0 ∧ r' = 1 ∧ o' = ov)) (fun o' t => gPost D kc (va_A (w_X8_eventDay kc a0 a1 a2 a3 a4 a5 a6 a7 a8 a9 a10 a11 a12 a13 a14 a15 a16 a17 a18 a19 a20 a21 a22 a23 textLength errorPlace undoable newest day wind loft lost launchCount drawState count row ++ [(oa, .inl (kc 2, 1, .inr (.inl ov)))]) sz) (w_X8_eventDay kc a0 a1 a2 a3 a4 a5 a6 a7 a8 a9 a10 a11 a12 a13 a14 a15 a16 a17 a18 a19 a20 a21 a22 a23 textLength errorPlace undoable newest day wind loft lost launchCount drawState count row ++ [(oa, .inl (kc 2, 1, .inr (.inl o')))]) t) (va_A (w_X8_eventDay kc a0 a1 a2 a3 a4 a5 a6 a7 a8 a9 a10 a11 a12 a13 a14 a15 a16 a17 a18 a19 a20 a21 a22 a23 textLength errorPlace undoable newest day wind loft lost launchCount drawState count row ++ [(oa, .inl (kc 2, 1, .inr (.inl ov)))]) sz)) 1 6 (va_A (w_X8_eventDay kc a0 a1 a2 a3 a4 a5 a6 a7 a8 a9 a10 a11 a12 a13 a14 a15 a16 a17 a18 a19 a20 a21 a22 a23 textLength errorPlace undoable newest day wind loft lost launchCount drawState count row ++ [(oa, .inl (kc 2, 1, .inr (.inl ov)))]) sz) := by
  refine Met_ofWH (cc := cL_eventDay) (maxL := 4) (ret := (some .int)) (hh := [(0, 9, 12, 13)]) (by decide) rfl ?_
  intro p e s m args below meth c s₁ B hml hv
  obtain ⟨rfl, ⟨hsz, hP, hK, hD0, hN⟩, hG⟩ := hv
  have hr := B.returns
  have hlocks := B.notSynchronized
  have hx := B.exec
  have hb := B.bytes
  have hts := atoms_spec (ws := wsL_eventDay) B.pre
  have hown : s.vm.findClass RL = some m.cls := findClass_of_methodNamed B.named
  have htab : c.exceptionTable.toList = tableOf [(0, 9, 12, 13)] := vx_table (x := yX8_eventKind) B (hts _ List.mem_cons_self)
  subst hsz
  have hD := hD0.self (sz := s.heap.size)
  obtain ⟨A, hAe⟩ : ∃ A, va_A (w_X8_eventDay kc a0 a1 a2 a3 a4 a5 a6 a7 a8 a9 a10 a11 a12 a13 a14 a15 a16 a17 a18 a19 a20 a21 a22 a23 textLength errorPlace undoable newest day wind loft lost launchCount drawState count row ++ [(oa, .inl (kc 2, 1, .inr (.inl ov)))]) s.heap.size = A := ⟨_, rfl⟩
  rw [hAe] at hD hG ⊢
  have hA : ∀ q : Nat, s.heap.size ≤ q → A q := fun q h => by rw [← hAe]; exact Or.inr h
  have hS : va_S A s.heap s.heap [] := va_S.rf
  have hl := lv_entry [.ref a0, .int x1, .ref oa] (n := 4) (Nat.le_of_ble_eq_true rfl)
  rw [lg_entry_eq]
  generalize (lg_sl [.ref a0, .int x1, .ref oa] ++ List.replicate (4 - (lg_sl [.ref a0, .int x1, .ref oa]).length) Slot.unset).toArray = ls at hl ⊢
  have hl : lv_has ls 4 [(0, .ref a0), (1, .int x1), (2, .ref oa)] := hl
  refine lv_aload_n hx hb dL_eventDay_0 rfl (lv_at hl 2 rfl) ?_
  refine lv_iconst (v := 0) hx hb dL_eventDay_1 (by decide) ?_
  refine lv_aload_n hx hb dL_eventDay_2 rfl (lv_at hl 0 rfl) ?_
  refine lv_iload_n hx hb dL_eventDay_3 rfl (lv_at hl 1 rfl) ?_
  have hcut : ∀ wn : va_W, wn = (w_X8_eventDay kc a0 a1 a2 a3 a4 a5 a6 a7 a8 a9 a10 a11 a12 a13 a14 a15 a16 a17 a18 a19 a20 a21 a22 a23 textLength errorPlace undoable newest day wind loft lost launchCount drawState count row) → gCut (w_X8_eventDay kc a0 a1 a2 a3 a4 a5 a6 a7 a8 a9 a10 a11 a12 a13 a14 a15 a16 a17 a18 a19 a20 a21 a22 a23 textLength errorPlace undoable newest day wind loft lost launchCount drawState count row ++ [(oa, .inl (kc 2, 1, .inr (.inl ov)))]) (w_X8_eventDay kc a0 a1 a2 a3 a4 a5 a6 a7 a8 a9 a10 a11 a12 a13 a14 a15 a16 a17 a18 a19 a20 a21 a22 a23 textLength errorPlace undoable newest day wind loft lost launchCount drawState count row) wn (w_X8_eventDay kc a0 a1 a2 a3 a4 a5 a6 a7 a8 a9 a10 a11 a12 a13 a14 a15 a16 a17 a18 a19 a20 a21 a22 a23 textLength errorPlace undoable newest day wind loft lost launchCount drawState count row ++ [(oa, .inl (kc 2, 1, .inr (.inl ov)))]) [0, 1, 2, 3] [4] [1, 2, 3, 4, 0] := by
    intro wn hwn; subst hwn; exact ⟨rfl, rfl, by decide, rfl⟩
  have hcut := hcut _ rfl
  have hPc : va_P D vwCl (w_X8_eventDay kc a0 a1 a2 a3 a4 a5 a6 a7 a8 a9 a10 a11 a12 a13 a14 a15 a16 a17 a18 a19 a20 a21 a22 a23 textLength errorPlace undoable newest day wind loft lost launchCount drawState count row) s.heap := hP.sub [0, 1, 2, 3] rfl
  have hDc : va_D A (w_X8_eventDay kc a0 a1 a2 a3 a4 a5 a6 a7 a8 a9 a10 a11 a12 a13 a14 a15 a16 a17 a18 a19 a20 a21 a22 a23 textLength errorPlace undoable newest day wind loft lost launchCount drawState count row) := hD.sub [0, 1, 2, 3] (by decide) rfl
  have hFc := va_free (wc := (w_X8_eventDay kc a0 a1 a2 a3 a4 a5 a6 a7 a8 a9 a10 a11 a12 a13 a14 a15 a16 a17 a18 a19 a20 a21 a22 a23 textLength errorPlace undoable newest day wind loft lost launchCount drawState count row)) hD hS hA [0, 1, 2, 3] rfl
  refine vx_calli (vx_runV (As := [.int x1]) (rest := [.int 0, .ref oa]) ⟨hx, hb, hml, hown, hts⟩ (x_X8_eventDay l hst D kc sa N a0 a1 a2 a3 a4 a5 a6 a7 a8 a9 a10 a11 a12 a13 a14 a15 a16 a17 a18 a19 a20 a21 a22 a23 textLength errorPlace undoable newest day wind loft lost launchCount drawState count row x1 rz hf hin s.heap.size) (cwV 1 hts gL_eventDay_X8_eventDay rfl rfl rfl (by decide +kernel) ⟨Nat.le_of_ble_eq_true rfl, Nat.le_of_ble_eq_true rfl⟩) ⟨gPreX_blind _ _ _ _ _ _, va_recv (q := (RX8, TX8, 15)) (ci := 8) (q0 := 0) hK hP rfl rfl, fun U hU hW9 => ⟨rfl, ⟨by rw [hU], by rw [hU]; exact hPc, va_K.moved hW9.alike hK, hDc.weaken (fun _ _ _ _ => trivial), gN.warm hW9 hN⟩, hG.at hS hFc hU hW9⟩⟩ rfl rfl hl.1 rfl (lv_room (Nat.le_of_ble_eq_true rfl)) dL_eventDay_4 ⟨Nat.le_of_ble_eq_true rfl, Nat.le_of_ble_eq_true rfl⟩) hS (fun q _ h => hFc q h) hFc (fun q _ h => hFc q h) ?_ ?_
  · intro E ce q9 u t H1 locs1 ht hal hpx hBX hz1 hk1 hS1 hcell hvm hcl
    obtain ⟨hE, hP1, hK1, hD1⟩ := hBX
    subst hE
    rw [ht] at hP1
    obtain ⟨hP2, hD2⟩ := g_world hP hD hcut hk1 hFc hP1 hD1
    refine vx_catch (name := xE) hown [] ⟨0, 9, 12, 13⟩ [] (by rw [htab]; rfl) (fun z hz => by cases hz) (by decide) (by decide) (hts (.classLink RL 13 xE) (by decide +kernel)) (va_Nw.use rfl hG.2.2.2.2.2.2) hcell hvm hcl ?_
    refine lv_astore_n (lv' := [(3, .ref q9), (0, .ref a0), (1, .int x1), (2, .ref oa)]) hx hb dL_eventDay_12 rfl hl (by decide) rfl (fun ls hl => ?_)
    refine lv_iconst (v := 1) hx hb dL_eventDay_13 (by decide) ?_
    exact W.iret (v := 1) hx hb hr (fun t ht hW => ⟨⟨1, ov, rfl, Or.inr ⟨Decidable.of_not_not hpx, rfl, rfl⟩, by rw [ht]; exact hP2, va_K.moved hW.alike hK, hD2⟩, hS1.F ht⟩) hS1.2.2 dL_eventDay_14 hlocks
  · intro r u t H1 locs1 ht hal hpost hB hz1 hk1 hS1
    obtain ⟨hP1, hK1, hD1⟩ := hB
    rw [ht] at hP1
    obtain ⟨hP2, hD2⟩ := g_world hP hD hcut hk1 hFc hP1 hD1
    refine lv_i2l (v := r.toInt64) hx hb dL_eventDay_7 rfl ?_
    refine va_last hx hb hK hP2 hD2 hS1 4 2 rfl rfl (show vp_in 0 1 by unfold vp_in; decide) dL_eventDay_8 (fun H locs hP hD hS => ?_)
    have hP : va_P D vwCl (w_X8_eventDay kc a0 a1 a2 a3 a4 a5 a6 a7 a8 a9 a10 a11 a12 a13 a14 a15 a16 a17 a18 a19 a20 a21 a22 a23 textLength errorPlace undoable newest day wind loft lost launchCount drawState count row ++ [(oa, .inl (kc 2, 1, .inr (.inl (vp_updL ov 0 r.toInt64))))]) H := hP
    have hD : va_D A (w_X8_eventDay kc a0 a1 a2 a3 a4 a5 a6 a7 a8 a9 a10 a11 a12 a13 a14 a15 a16 a17 a18 a19 a20 a21 a22 a23 textLength errorPlace undoable newest day wind loft lost launchCount drawState count row ++ [(oa, .inl (kc 2, 1, .inr (.inl (vp_updL ov 0 r.toInt64))))]) := hD
    refine lv_goto (tgt := 15) hx hb dL_eventDay_9 (by decide) ?_
    refine lv_iconst (v := 0) hx hb dL_eventDay_15 (by decide) ?_
    exact W.iret (v := 0) hx hb hr (fun t ht hW => ⟨⟨0, _, rfl, Or.inl ⟨hpost.1, rfl, by rw [hpost.2]⟩, by rw [ht]; exact hP, va_K.moved hW.alike hK, hD⟩, hS.F ht⟩) hS.2.2 dL_eventDay_16 hlocks
