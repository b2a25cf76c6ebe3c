abbrev nct_0 : Cond := .methodLinkNest RX8 15 yX4_init RX8
abbrev nct_1 : Cond := .methodLinkNest RX8 22 yX0_init RX8
abbrev nct_2 : Cond := .methodLinkNest RX8 29 yX3_init RX8
abbrev nct_3 : Cond := .methodLinkNest RX8 36 yX2_init RX8
abbrev nct_4 : Cond := .methodLinkNest RX8 43 yX6_init RX8
abbrev nct_5 : Cond := .methodLinkNest RX8 65 yX5_init RX8
abbrev nct_6 : Cond := .methodLinkNest RX5 11 yX7_init RX8
abbrev nct_7 : Cond := .methodLinkNest RX6 11 yX1_init RX8
def gC (U : State) : Prop := va_Nw nct_0 U ∧ va_Nw nct_1 U ∧ va_Nw nct_2 U ∧ va_Nw nct_3 U ∧ va_Nw nct_4 U ∧ va_Nw nct_5 U ∧ va_Nw nct_6 U ∧ va_Nw nct_7 U ∧ va_AO RX6 U
theorem gC.same {u U : State} (h : u.vm = U.vm) (hN : gC u) : gC U := by
  obtain ⟨h0, h1, h2, h3, h4, h5, h6, h7, h8⟩ := hN
  exact ⟨va_Nw.same rfl h h0, va_Nw.same rfl h h1, va_Nw.same rfl h h2, va_Nw.same rfl h h3, va_Nw.same rfl h h4, va_Nw.same rfl h h5, va_Nw.same rfl h h6, va_Nw.same rfl h h7, va_AO.moved (by rw [h]; exact Vm.Alike.refl _) h8⟩
theorem gC.warm {s U : State} (hW : s.WarmedH U.vm) (hN : gC s) : gC U := by
  obtain ⟨h0, h1, h2, h3, h4, h5, h6, h7, h8⟩ := hN
  exact ⟨va_Nw.warmM hW h0, va_Nw.warmM hW h1, va_Nw.warmM hW h2, va_Nw.warmM hW h3, va_Nw.warmM hW h4, va_Nw.warmM hW h5, va_Nw.warmM hW h6, va_Nw.warmM hW h7, va_AO.moved hW.alike h8⟩
def gPreC (D : va_G) (kc : Nat → ClassId) (ws : va_W) (sz : Nat) (U : State) : Prop := gPre D kc ws sz U ∧ gC U
theorem gPreC_blind (av : List Value) (D : va_G) (kc : Nat → ClassId) (ws : va_W) (sz : Nat) : FrameBlind (va_Pc av (gPreC D kc ws sz)) := by
  intro a U g mk h
  obtain ⟨h0, h1, h2⟩ := h
  have h3 := gPre_blind av D kc ws sz a U g mk ⟨h0, h1⟩
  exact ⟨h0, h3.2, gC.same (u := U) (U := U.calling g mk a) rfl h2⟩
/-- a constructor: from the world ws to ws' u, new cells at the places u -/
def MC (l : Launch) (y : MethodName) (wl : List Cond) (rm : Room) (D : va_G) (kc : Nat → ClassId) (b : Nat) (ws : va_W) (ws' : (Nat → Nat) → va_W) (mc ms : Nat) : Prop := ∀ sz : Nat, Met l y wl rm (va_Pc [.ref b] (gPreC D kc ws sz)) (va_Qv (fun (_ : Nat → Nat) => True) (fun u t => gPost D kc (va_A ws sz) (ws' u) t) (va_A ws sz)) mc ms (va_A ws sz)
def gCutC (ws wc : va_W) (isC isR : List Nat) : Prop := isC.map (fun i => ws[i]?) = wc.map some ∧ isR.map (fun i => ws[i]?) = (isR.filterMap (fun i => ws[i]?)).map some ∧ (va_nd isC && va_nd isR && isR.all (fun i => !isC.contains i)) = true
theorem g_IN {p : Program} {l : Launch} {e : Env} {R : Room} {s : State} {m : MethodId} {args : Array Value} {below : List Frame} {meth : Method} {c : Code} {H : Heap} {locs : List Loc} {cells slots : Nat} {Q : State → Prop} {A : Nat → Prop} {H0 : Heap} {D : va_G} {kc : Nat → ClassId} {cc : ByteArray} {nL : Nat} {Ts : List Cond} {own : String} {y : MethodName} {bytes : ByteArray} {maxL : Nat} {wl : List Cond} {rm : Room} {index : Nat} {rest : List Value} {pc : Nat} {ls : Array Slot} {st : List Value} {b mc ms : Nat} {host : String} {X wc pl : va_W} {wc' : (Nat → Nat) → va_W} (S : CallFix p m c cc nL s args Ts own) (hN : gN s) (hC : gC s) (hK : va_K D vwCl (tyL kc) s) (hP : va_P D vwCl (X ++ pl) H) (hD : va_D A (X ++ pl)) (hS : va_S A H0 H locs) (hA : ∀ q : Nat, H0.size ≤ q → A q) (hM : MC l y wl rm D kc b wc wc' mc ms) (cw : va_CN R s args own index y host bytes maxL none wl rm mc ms 0 ∧ y.name = "<init>" ∧ (Cond.instanceMethod y).before args s = true) (isC isR : List Nat) (hcut : gCutC X wc isC isR) (hsize : ls.size = nL) (hst : st = .ref b :: rest) (hW : (rest.map fun v => v.category).sum ≤ 8) (hdg : decode cc pc = .ok (.invokespecial index, 3)) (hf : cells + mc ≤ R.cells ∧ slots + ms ≤ R.slots)
    (kk : ∀ (u : Nat → Nat) (H1 : Heap) (locs1 : List Loc), va_P D vwCl ((isR.filterMap (fun i => X[i]?) ++ wc' u) ++ pl) H1 → va_D A ((isR.filterMap (fun i => X[i]?) ++ wc' u) ++ pl) → va_S A H0 H1 locs1 → W p l e R s m args below meth c H1 locs1 (cells + mc) (slots + ms) Q (F0 m (pc + 3) ls rest)) : W p l e R s m args below meth c H locs cells slots Q (F0 m pc ls st) := by
  have h3 := hcut.2.2
  simp only [Bool.and_eq_true] at h3
  have hPX : va_P D vwCl X H := fun k q hk => hP k q (by rw [List.getElem?_append_left (List.getElem?_eq_some_iff.mp hk).1]; exact hk)
  have hDX : va_D A X := ⟨fun i j x y hi hj hxy => hD.1 i j x y (by rw [List.getElem?_append_left (List.getElem?_eq_some_iff.mp hi).1]; exact hi) (by rw [List.getElem?_append_left (List.getElem?_eq_some_iff.mp hj).1]; exact hj) hxy, fun k q hk => hD.2 k q (by rw [List.getElem?_append_left (List.getElem?_eq_some_iff.mp hk).1]; exact hk)⟩
  have hPc : va_P D vwCl wc H := hPX.sub isC (fm_of_map _ _ _ hcut.1)
  have hDc : va_D A wc := hDX.sub isC h3.1.1 hcut.1
  have hFc := va_free (wc := wc) hDX hS hA isC hcut.1
  refine va_callv (va_runIN (As := []) (rest := rest) S (hM H.size) cw ⟨gPreC_blind _ _ _ _ _, fun U hU hW9 => ⟨rfl, ⟨by rw [hU], by rw [hU]; exact hPc, va_K.moved hW9.alike hK, hDc.weaken (fun _ _ _ _ => trivial), gN.warm hW9 hN⟩, gC.warm hW9 hC⟩⟩ rfl rfl hsize hst (lv_room hW) hdg hf) hS (fun q _ h => hFc q h) hFc (fun u t H1 locs1 ht hvm hw hB hz1 hk1 hS1 => ?_)
  obtain ⟨hP1, hK1, hD1⟩ := hB
  rw [ht] at hP1
  obtain ⟨hP2, hD2⟩ := va_joinQ hP hD isC isR hcut.1 hcut.2.1 h3.1.2 (fun i hi hc => by
    have := List.all_eq_true.mp h3.2 i hi
    simp at this
    exact this hc) hk1 hFc hP1 hD1
  exact kk u H1 locs1 hP2 hD2 hS1
theorem g_IO {p : Program} {l : Launch} {e : Env} {R : Room} {s : State} {m : MethodId} {args : Array Value} {below : List Frame} {meth : Method} {c : Code} {H : Heap} {locs : List Loc} {cells slots : Nat} {Q : State → Prop} {A : Nat → Prop} {H0 : Heap} {D : va_G} {kc : Nat → ClassId} {cc : ByteArray} {nL : Nat} {Ts : List Cond} {own : String} {y : MethodName} {bytes : ByteArray} {maxL : Nat} {wl : List Cond} {rm : Room} {index : Nat} {rest : List Value} {pc : Nat} {ls : Array Slot} {st : List Value} {b mc ms : Nat} {X wc pl : va_W} {wc' : (Nat → Nat) → va_W} (S : CallFix p m c cc nL s args Ts own) (hN : gN s) (hC : gC s) (hK : va_K D vwCl (tyL kc) s) (hP : va_P D vwCl (X ++ pl) H) (hD : va_D A (X ++ pl)) (hS : va_S A H0 H locs) (hA : ∀ q : Nat, H0.size ≤ q → A q) (hM : MC l y wl rm D kc b wc wc' mc ms) (cw : CallB R s args own index y bytes maxL none wl rm mc ms 0 ∧ y.name = "<init>" ∧ (Cond.instanceMethod y).before args s = true) (isC isR : List Nat) (hcut : gCutC X wc isC isR) (hsize : ls.size = nL) (hst : st = .ref b :: rest) (hW : (rest.map fun v => v.category).sum ≤ 8) (hdg : decode cc pc = .ok (.invokespecial index, 3)) (hf : cells + mc ≤ R.cells ∧ slots + ms ≤ R.slots)
    (kk : ∀ (u : Nat → Nat) (H1 : Heap) (locs1 : List Loc), va_P D vwCl ((isR.filterMap (fun i => X[i]?) ++ wc' u) ++ pl) H1 → va_D A ((isR.filterMap (fun i => X[i]?) ++ wc' u) ++ pl) → va_S A H0 H1 locs1 → W p l e R s m args below meth c H1 locs1 (cells + mc) (slots + ms) Q (F0 m (pc + 3) ls rest)) : W p l e R s m args below meth c H locs cells slots Q (F0 m pc ls st) := by
  have h3 := hcut.2.2
  simp only [Bool.and_eq_true] at h3
  have hPX : va_P D vwCl X H := fun k q hk => hP k q (by rw [List.getElem?_append_left (List.getElem?_eq_some_iff.mp hk).1]; exact hk)
  have hDX : va_D A X := ⟨fun i j x y hi hj hxy => hD.1 i j x y (by rw [List.getElem?_append_left (List.getElem?_eq_some_iff.mp hi).1]; exact hi) (by rw [List.getElem?_append_left (List.getElem?_eq_some_iff.mp hj).1]; exact hj) hxy, fun k q hk => hD.2 k q (by rw [List.getElem?_append_left (List.getElem?_eq_some_iff.mp hk).1]; exact hk)⟩
  have hPc : va_P D vwCl wc H := hPX.sub isC (fm_of_map _ _ _ hcut.1)
  have hDc : va_D A wc := hDX.sub isC h3.1.1 hcut.1
  have hFc := va_free (wc := wc) hDX hS hA isC hcut.1
  refine va_callv (va_runI (As := []) (rest := rest) S (hM H.size) cw ⟨gPreC_blind _ _ _ _ _, fun U hU hW9 => ⟨rfl, ⟨by rw [hU], by rw [hU]; exact hPc, va_K.moved hW9.alike hK, hDc.weaken (fun _ _ _ _ => trivial), gN.warm hW9 hN⟩, gC.warm hW9 hC⟩⟩ rfl rfl hsize hst (lv_room hW) hdg hf) hS (fun q _ h => hFc q h) hFc (fun u t H1 locs1 ht hvm hw hB hz1 hk1 hS1 => ?_)
  obtain ⟨hP1, hK1, hD1⟩ := hB
  rw [ht] at hP1
  obtain ⟨hP2, hD2⟩ := va_joinQ hP hD isC isR hcut.1 hcut.2.1 h3.1.2 (fun i hi hc => by
    have := List.all_eq_true.mp h3.2 i hi
    simp at this
    exact this hc) hk1 hFc hP1 hD1
  exact kk u H1 locs1 hP2 hD2 hS1
theorem g_newB {p : Program} {l : Launch} {e : Env} {R : Room} {s : State} {m : MethodId} {args : Array Value} {below : List Frame} {meth : Method} {c : Code} {H : Heap} {locs : List Loc} {cells slots : Nat} {Q : State → Prop} {A : Nat → Prop} {H0 : Heap} {D : va_G} {kc : Nat → ClassId} {ws : va_W} {cc : ByteArray} {rest : List Value} {pc : Nat} {ls : Array Slot} (hx : p.tables.exec = Jvm.exec) (hb : c.code = cc) (harr : (Cond.arrayClass .byte).before args s = true) (hK : va_K D vwCl (tyL kc) s) (hP : va_P D vwCl ws H) (hD : va_D A ws) (hS : va_S A H0 H locs) (hA : ∀ q : Nat, H0.size ≤ q → A q) {n : Int32} (N' : Nat) (hn : ¬ n < 0) (hN : n.toNatClampNeg = N') (hbytes : N' * componentBytes .byte ≤ 536870912) (hcells : cells + 1 ≤ R.cells) (hslots : slots + N' ≤ R.slots) (hdg : decode cc pc = .ok (.newarray .byte, 2))
    (kk : ∀ (q : Nat) (H1 : Heap), va_P D vwCl (ws ++ [(q, .inl (kc 0, N', .inl (fun _ => 0)))]) H1 → va_D A (ws ++ [(q, .inl (kc 0, N', .inl (fun _ => 0)))]) → va_S A H0 H1 locs → W p l e R s m args below meth c H1 locs (cells + 1) (slots + N') Q (F0 m (pc + 2) ls (.ref q :: rest))) : W p l e R s m args below meth c H locs cells slots Q (F0 m pc ls (.int n :: rest)) := by
  refine va_newa (atype := .byte) (ty := .byte) hx hb harr rfl hK hP hD hS hA (a0 := (N', .inl (fun _ => 0))) (fun cA => rfl) hn hN hbytes hcells hslots hdg (fun q cA H1 hK1 hP1 hD1 hS1 => ?_)
  have h1 : s.vm.findClass _ = some (kc 0) := (hK1.2 0 _ rfl).2
  have h2 : s.vm.findClass _ = some cA := (hK1.2 5 _ rfl).2
  obtain rfl : kc 0 = cA := Option.some.inj (h1.symm.trans h2)
  exact kk q H1 hP1 hD1 hS1
theorem g_newI {p : Program} {l : Launch} {e : Env} {R : Room} {s : State} {m : MethodId} {args : Array Value} {below : List Frame} {meth : Method} {c : Code} {H : Heap} {locs : List Loc} {cells slots : Nat} {Q : State → Prop} {A : Nat → Prop} {H0 : Heap} {D : va_G} {kc : Nat → ClassId} {ws : va_W} {cc : ByteArray} {rest : List Value} {pc : Nat} {ls : Array Slot} (hx : p.tables.exec = Jvm.exec) (hb : c.code = cc) (harr : (Cond.arrayClass .int).before args s = true) (hK : va_K D vwCl (tyL kc) s) (hP : va_P D vwCl ws H) (hD : va_D A ws) (hS : va_S A H0 H locs) (hA : ∀ q : Nat, H0.size ≤ q → A q) {n : Int32} (N' : Nat) (hn : ¬ n < 0) (hN : n.toNatClampNeg = N') (hbytes : N' * componentBytes .int ≤ 536870912) (hcells : cells + 1 ≤ R.cells) (hslots : slots + N' ≤ R.slots) (hdg : decode cc pc = .ok (.newarray .int, 2))
    (kk : ∀ (q : Nat) (H1 : Heap), va_P D vwCl (ws ++ [(q, .inl (kc 1, N', .inl (fun _ => 0)))]) H1 → va_D A (ws ++ [(q, .inl (kc 1, N', .inl (fun _ => 0)))]) → va_S A H0 H1 locs → W p l e R s m args below meth c H1 locs (cells + 1) (slots + N') Q (F0 m (pc + 2) ls (.ref q :: rest))) : W p l e R s m args below meth c H locs cells slots Q (F0 m pc ls (.int n :: rest)) := by
  refine va_newa (atype := .int) (ty := .int) hx hb harr rfl hK hP hD hS hA (a0 := (N', .inl (fun _ => 0))) (fun cA => rfl) hn hN hbytes hcells hslots hdg (fun q cA H1 hK1 hP1 hD1 hS1 => ?_)
  have h1 : s.vm.findClass _ = some (kc 1) := (hK1.2 1 _ rfl).2
  have h2 : s.vm.findClass _ = some cA := (hK1.2 5 _ rfl).2
  obtain rfl : kc 1 = cA := Option.some.inj (h1.symm.trans h2)
  exact kk q H1 hP1 hD1 hS1
theorem g_newJ {p : Program} {l : Launch} {e : Env} {R : Room} {s : State} {m : MethodId} {args : Array Value} {below : List Frame} {meth : Method} {c : Code} {H : Heap} {locs : List Loc} {cells slots : Nat} {Q : State → Prop} {A : Nat → Prop} {H0 : Heap} {D : va_G} {kc : Nat → ClassId} {ws : va_W} {cc : ByteArray} {rest : List Value} {pc : Nat} {ls : Array Slot} (hx : p.tables.exec = Jvm.exec) (hb : c.code = cc) (harr : (Cond.arrayClass .long).before args s = true) (hK : va_K D vwCl (tyL kc) s) (hP : va_P D vwCl ws H) (hD : va_D A ws) (hS : va_S A H0 H locs) (hA : ∀ q : Nat, H0.size ≤ q → A q) {n : Int32} (N' : Nat) (hn : ¬ n < 0) (hN : n.toNatClampNeg = N') (hbytes : N' * componentBytes .long ≤ 536870912) (hcells : cells + 1 ≤ R.cells) (hslots : slots + N' ≤ R.slots) (hdg : decode cc pc = .ok (.newarray .long, 2))
    (kk : ∀ (q : Nat) (H1 : Heap), va_P D vwCl (ws ++ [(q, .inl (kc 2, N', .inr (.inl (fun _ => 0))))]) H1 → va_D A (ws ++ [(q, .inl (kc 2, N', .inr (.inl (fun _ => 0))))]) → va_S A H0 H1 locs → W p l e R s m args below meth c H1 locs (cells + 1) (slots + N') Q (F0 m (pc + 2) ls (.ref q :: rest))) : W p l e R s m args below meth c H locs cells slots Q (F0 m pc ls (.int n :: rest)) := by
  refine va_newa (atype := .long) (ty := .long) hx hb harr rfl hK hP hD hS hA (a0 := (N', .inr (.inl (fun _ => 0)))) (fun cA => rfl) hn hN hbytes hcells hslots hdg (fun q cA H1 hK1 hP1 hD1 hS1 => ?_)
  have h1 : s.vm.findClass _ = some (kc 2) := (hK1.2 2 _ rfl).2
  have h2 : s.vm.findClass _ = some cA := (hK1.2 5 _ rfl).2
  obtain rfl : kc 2 = cA := Option.some.inj (h1.symm.trans h2)
  exact kk q H1 hP1 hD1 hS1
theorem g_newZ {p : Program} {l : Launch} {e : Env} {R : Room} {s : State} {m : MethodId} {args : Array Value} {below : List Frame} {meth : Method} {c : Code} {H : Heap} {locs : List Loc} {cells slots : Nat} {Q : State → Prop} {A : Nat → Prop} {H0 : Heap} {D : va_G} {kc : Nat → ClassId} {ws : va_W} {cc : ByteArray} {rest : List Value} {pc : Nat} {ls : Array Slot} (hx : p.tables.exec = Jvm.exec) (hb : c.code = cc) (harr : (Cond.arrayClass .boolean).before args s = true) (hK : va_K D vwCl (tyL kc) s) (hP : va_P D vwCl ws H) (hD : va_D A ws) (hS : va_S A H0 H locs) (hA : ∀ q : Nat, H0.size ≤ q → A q) {n : Int32} (N' : Nat) (hn : ¬ n < 0) (hN : n.toNatClampNeg = N') (hbytes : N' * componentBytes .boolean ≤ 536870912) (hcells : cells + 1 ≤ R.cells) (hslots : slots + N' ≤ R.slots) (hdg : decode cc pc = .ok (.newarray .boolean, 2))
    (kk : ∀ (q : Nat) (H1 : Heap), va_P D vwCl (ws ++ [(q, .inl (kc 3, N', .inl (fun _ => 0)))]) H1 → va_D A (ws ++ [(q, .inl (kc 3, N', .inl (fun _ => 0)))]) → va_S A H0 H1 locs → W p l e R s m args below meth c H1 locs (cells + 1) (slots + N') Q (F0 m (pc + 2) ls (.ref q :: rest))) : W p l e R s m args below meth c H locs cells slots Q (F0 m pc ls (.int n :: rest)) := by
  refine va_newa (atype := .boolean) (ty := .boolean) hx hb harr rfl hK hP hD hS hA (a0 := (N', .inl (fun _ => 0))) (fun cA => rfl) hn hN hbytes hcells hslots hdg (fun q cA H1 hK1 hP1 hD1 hS1 => ?_)
  have h1 : s.vm.findClass _ = some (kc 3) := (hK1.2 3 _ rfl).2
  have h2 : s.vm.findClass _ = some cA := (hK1.2 5 _ rfl).2
  obtain rfl : kc 3 = cA := Option.some.inj (h1.symm.trans h2)
  exact kk q H1 hP1 hD1 hS1
abbrev n_X1 (kc : Nat → ClassId) (h0 : Nat) (u : Nat → Nat) : va_W := [(h0, .inr (1, [.ref (u 0), .ref (u 1), .ref (u 2), .int 0])), ((u 0), .inl (kc 1, 16, .inl (fun _ => 0))), ((u 1), .inl (kc 1, 16, .inl (fun _ => 0))), ((u 2), .inl (kc 1, 16, .inl (fun _ => 0)))]
set_option maxHeartbeats 4000000 in
set_option maxRecDepth 100000 in
theorem k_X1 (l : Launch) (D : va_G) (kc : Nat → ClassId) (h0 : Nat) : MC l yX1_init wsX1_init ({ frames := 1, cells := 3, slots := 48, locals := 12 }) D kc h0 [(h0, .inr (1, [.null, .null, .null, .int 0]))] (n_X1 kc h0) 3 48 := by
  intro sz
  refine Met.ofW (cc := cX1_init) (maxL := 1) (ret := none) (by decide) rfl ?_
  intro p e s m args below meth c s₁ B hml hv
  obtain ⟨rfl, ⟨hsz, hP, hK, hD0, hN⟩, hC⟩ := hv
  have hr := B.returns
  have hlocks := B.notSynchronized
  have hx := B.exec
  have hb := B.bytes
  have hin : meth.name = "<init>" := (name_of_methodNamed B.named B.method).1
  have hts := atoms_spec (ws := wsX1_init) B.pre
  have hown : s.vm.findClass RX1 = some m.cls := findClass_of_methodNamed B.named
  subst hsz
  obtain ⟨A, hAe⟩ : ∃ A, va_A [(h0, .inr (1, [.null, .null, .null, .int 0]))] s.heap.size = A := ⟨_, rfl⟩
  have hD := hD0.self (sz := s.heap.size)
  have hA : ∀ q : Nat, s.heap.size ≤ q → A q := fun q h => by rw [← hAe]; exact Or.inr h
  rw [hAe] at hD
  have hS : va_S A s.heap s.heap [] := va_S.rf
  have hl := lv_entry [.ref h0] (n := 1) (Nat.le_of_ble_eq_true rfl)
  rw [lg_entry_eq]
  generalize (lg_sl [.ref h0] ++ List.replicate (1 - (lg_sl [.ref h0]).length) Slot.unset).toArray = ls at hl ⊢
  have hl : lv_has ls 1 [(0, .ref h0)] := hl
  have ha_I := hts (.arrayClass .int) (by decide +kernel)
  have in_X1 : ∀ w ∈ u_ws RX1 TX1 4, w ∈ wsX1_init := by decide +kernel
  have lk_9 := hts (.fieldLink RX1 9 "BalloonMail$Journal" "kind" "[I") (by decide +kernel)
  have lk_15 := hts (.fieldLink RX1 15 "BalloonMail$Journal" "number" "[I") (by decide +kernel)
  have lk_18 := hts (.fieldLink RX1 18 "BalloonMail$Journal" "day" "[I") (by decide +kernel)
  refine lv_aload_n hx hb dX1_init_0 rfl (lv_at hl 0 rfl) ?_
  refine W.objInit hx hb hown (hts (.methodLink RX1 3 objectInit) (by decide +kernel)) (hts (.instanceMethod objectInit) (by decide +kernel)) (hts (.code objectInit ⟨#[0xb1]⟩ 1 none) (by decide +kernel)) rfl (by rw [hml]; exact hl.1) rfl dX1_init_1 (Nat.le_of_ble_eq_true rfl) (Nat.le_of_ble_eq_true rfl) ?_
  refine W.eq (g2 := F0 m 4 ls []) rfl ?_
  refine lv_aload_n hx hb dX1_init_4 rfl (lv_at hl 0 rfl) ?_
  refine lv_bipush (v := 16) hx hb dX1_init_5 (by decide) ?_
  refine g_newI hx hb ha_I hK hP hD hS hA 16 (by decide) (by decide) (Nat.le_of_ble_eq_true rfl) (Nat.le_of_ble_eq_true rfl) (Nat.le_of_ble_eq_true rfl) dX1_init_7 (fun q1 H hP hD hS => ?_)
  have hP : va_P D vwCl [(h0, .inr (1, [.null, .null, .null, .int 0])), (q1, .inl (kc 1, 16, .inl (fun _ => 0)))] H := hP
  have hD : va_D A [(h0, .inr (1, [.null, .null, .null, .int 0])), (q1, .inl (kc 1, 16, .inl (fun _ => 0)))] := hD
  refine va_putF (D := D) (ci := 1) (v := .ref q1) (ty := .array .int) (C := RX1) (T := TX1) (N := 4) hx hb hts in_X1 tyX1 tyX1_ok nmX1 hown hK hP hD hS 0 rfl rfl 0 (by decide) lk_9 (fun _ h9 => h9) rfl hin rfl (by decide +kernel) rfl rfl (Nat.le_of_ble_eq_true rfl) dX1_init_9 (fun H locs hP hD hS => ?_)
  have hP : va_P D vwCl [(h0, .inr (1, [.ref q1, .null, .null, .int 0])), (q1, .inl (kc 1, 16, .inl (fun _ => 0)))] H := hP
  have hD : va_D A [(h0, .inr (1, [.ref q1, .null, .null, .int 0])), (q1, .inl (kc 1, 16, .inl (fun _ => 0)))] := hD
  refine lv_aload_n hx hb dX1_init_12 rfl (lv_at hl 0 rfl) ?_
  refine lv_bipush (v := 16) hx hb dX1_init_13 (by decide) ?_
  refine g_newI hx hb ha_I hK hP hD hS hA 16 (by decide) (by decide) (Nat.le_of_ble_eq_true rfl) (Nat.le_of_ble_eq_true rfl) (Nat.le_of_ble_eq_true rfl) dX1_init_15 (fun q2 H hP hD hS => ?_)
  have hP : va_P D vwCl [(h0, .inr (1, [.ref q1, .null, .null, .int 0])), (q1, .inl (kc 1, 16, .inl (fun _ => 0))), (q2, .inl (kc 1, 16, .inl (fun _ => 0)))] H := hP
  have hD : va_D A [(h0, .inr (1, [.ref q1, .null, .null, .int 0])), (q1, .inl (kc 1, 16, .inl (fun _ => 0))), (q2, .inl (kc 1, 16, .inl (fun _ => 0)))] := hD
  refine va_putF (D := D) (ci := 1) (v := .ref q2) (ty := .array .int) (C := RX1) (T := TX1) (N := 4) hx hb hts in_X1 tyX1 tyX1_ok nmX1 hown hK hP hD hS 0 rfl rfl 1 (by decide) lk_15 (fun _ h9 => h9) rfl hin rfl (by decide +kernel) rfl rfl (Nat.le_of_ble_eq_true rfl) dX1_init_17 (fun H locs hP hD hS => ?_)
  have hP : va_P D vwCl [(h0, .inr (1, [.ref q1, .ref q2, .null, .int 0])), (q1, .inl (kc 1, 16, .inl (fun _ => 0))), (q2, .inl (kc 1, 16, .inl (fun _ => 0)))] H := hP
  have hD : va_D A [(h0, .inr (1, [.ref q1, .ref q2, .null, .int 0])), (q1, .inl (kc 1, 16, .inl (fun _ => 0))), (q2, .inl (kc 1, 16, .inl (fun _ => 0)))] := hD
  refine lv_aload_n hx hb dX1_init_20 rfl (lv_at hl 0 rfl) ?_
  refine lv_bipush (v := 16) hx hb dX1_init_21 (by decide) ?_
  refine g_newI hx hb ha_I hK hP hD hS hA 16 (by decide) (by decide) (Nat.le_of_ble_eq_true rfl) (Nat.le_of_ble_eq_true rfl) (Nat.le_of_ble_eq_true rfl) dX1_init_23 (fun q3 H hP hD hS => ?_)
  have hP : va_P D vwCl [(h0, .inr (1, [.ref q1, .ref q2, .null, .int 0])), (q1, .inl (kc 1, 16, .inl (fun _ => 0))), (q2, .inl (kc 1, 16, .inl (fun _ => 0))), (q3, .inl (kc 1, 16, .inl (fun _ => 0)))] H := hP
  have hD : va_D A [(h0, .inr (1, [.ref q1, .ref q2, .null, .int 0])), (q1, .inl (kc 1, 16, .inl (fun _ => 0))), (q2, .inl (kc 1, 16, .inl (fun _ => 0))), (q3, .inl (kc 1, 16, .inl (fun _ => 0)))] := hD
  refine va_putF (D := D) (ci := 1) (v := .ref q3) (ty := .array .int) (C := RX1) (T := TX1) (N := 4) hx hb hts in_X1 tyX1 tyX1_ok nmX1 hown hK hP hD hS 0 rfl rfl 2 (by decide) lk_18 (fun _ h9 => h9) rfl hin rfl (by decide +kernel) rfl rfl (Nat.le_of_ble_eq_true rfl) dX1_init_25 (fun H locs hP hD hS => ?_)
  have hP : va_P D vwCl [(h0, .inr (1, [.ref q1, .ref q2, .ref q3, .int 0])), (q1, .inl (kc 1, 16, .inl (fun _ => 0))), (q2, .inl (kc 1, 16, .inl (fun _ => 0))), (q3, .inl (kc 1, 16, .inl (fun _ => 0)))] H := hP
  have hD : va_D A [(h0, .inr (1, [.ref q1, .ref q2, .ref q3, .int 0])), (q1, .inl (kc 1, 16, .inl (fun _ => 0))), (q2, .inl (kc 1, 16, .inl (fun _ => 0))), (q3, .inl (kc 1, 16, .inl (fun _ => 0)))] := hD
  have hP9 : va_P D vwCl (n_X1 kc h0 (fun k => ([q1, q2, q3] : List Nat).getD k 0)) H := hP
  have hD9 : va_D A (n_X1 kc h0 (fun k => ([q1, q2, q3] : List Nat).getD k 0)) := hD
  exact W.vret hx hb hr (fun t ht hW => ⟨⟨(fun k => ([q1, q2, q3] : List Nat).getD k 0), rfl, trivial, by rw [ht]; exact hP9, va_K.moved hW.alike hK, by rw [hAe]; exact hD9⟩, by rw [hAe]; exact hS.F ht⟩) (by rw [hAe]; exact hS.2.2) dX1_init_28 hlocks
abbrev n_X7 (kc : Nat → ClassId) (h0 : Nat) (u : Nat → Nat) : va_W := [(h0, .inr (7, [.int 0, .int 0, .ref (u 0), .ref (u 1), .ref (u 2), .ref (u 3), .ref (u 4), .ref (u 5)])), ((u 0), .inl (kc 1, 30, .inl (fun _ => 0))), ((u 1), .inl (kc 1, 30, .inl (fun _ => 0))), ((u 2), .inl (kc 1, 36, .inl (fun _ => 0))), ((u 3), .inl (kc 1, 54, .inl (fun _ => 0))), ((u 4), .inl (kc 1, 6, .inl (fun _ => 0))), ((u 5), .inl (kc 1, 48, .inl (fun _ => 0)))]
set_option maxHeartbeats 4000000 in
set_option maxRecDepth 100000 in
theorem k_X7 (l : Launch) (D : va_G) (kc : Nat → ClassId) (h0 : Nat) : MC l yX7_init wsX7_init ({ frames := 1, cells := 6, slots := 204, locals := 12 }) D kc h0 [(h0, .inr (7, [.int 0, .int 0, .null, .null, .null, .null, .null, .null]))] (n_X7 kc h0) 6 204 := by
  intro sz
  refine Met.ofW (cc := cX7_init) (maxL := 1) (ret := none) (by decide) rfl ?_
  intro p e s m args below meth c s₁ B hml hv
  obtain ⟨rfl, ⟨hsz, hP, hK, hD0, hN⟩, hC⟩ := hv
  have hr := B.returns
  have hlocks := B.notSynchronized
  have hx := B.exec
  have hb := B.bytes
  have hin : meth.name = "<init>" := (name_of_methodNamed B.named B.method).1
  have hts := atoms_spec (ws := wsX7_init) B.pre
  have hown : s.vm.findClass RX7 = some m.cls := findClass_of_methodNamed B.named
  subst hsz
  obtain ⟨A, hAe⟩ : ∃ A, va_A [(h0, .inr (7, [.int 0, .int 0, .null, .null, .null, .null, .null, .null]))] s.heap.size = A := ⟨_, rfl⟩
  have hD := hD0.self (sz := s.heap.size)
  have hA : ∀ q : Nat, s.heap.size ≤ q → A q := fun q h => by rw [← hAe]; exact Or.inr h
  rw [hAe] at hD
  have hS : va_S A s.heap s.heap [] := va_S.rf
  have hl := lv_entry [.ref h0] (n := 1) (Nat.le_of_ble_eq_true rfl)
  rw [lg_entry_eq]
  generalize (lg_sl [.ref h0] ++ List.replicate (1 - (lg_sl [.ref h0]).length) Slot.unset).toArray = ls at hl ⊢
  have hl : lv_has ls 1 [(0, .ref h0)] := hl
  have ha_I := hts (.arrayClass .int) (by decide +kernel)
  have in_X7 : ∀ w ∈ u_ws RX7 TX7 8, w ∈ wsX7_init := by decide +kernel
  have lk_9 := hts (.fieldLink RX7 9 "BalloonMail$Winds" "turnFrom" "[I") (by decide +kernel)
  have lk_15 := hts (.fieldLink RX7 15 "BalloonMail$Winds" "turnTo" "[I") (by decide +kernel)
  have lk_18 := hts (.fieldLink RX7 18 "BalloonMail$Winds" "follow" "[I") (by decide +kernel)
  have lk_21 := hts (.fieldLink RX7 21 "BalloonMail$Winds" "land" "[I") (by decide +kernel)
  have lk_24 := hts (.fieldLink RX7 24 "BalloonMail$Winds" "aimCount" "[I") (by decide +kernel)
  have lk_27 := hts (.fieldLink RX7 27 "BalloonMail$Winds" "aim" "[I") (by decide +kernel)
  refine lv_aload_n hx hb dX7_init_0 rfl (lv_at hl 0 rfl) ?_
  refine W.objInit hx hb hown (hts (.methodLink RX7 3 objectInit) (by decide +kernel)) (hts (.instanceMethod objectInit) (by decide +kernel)) (hts (.code objectInit ⟨#[0xb1]⟩ 1 none) (by decide +kernel)) rfl (by rw [hml]; exact hl.1) rfl dX7_init_1 (Nat.le_of_ble_eq_true rfl) (Nat.le_of_ble_eq_true rfl) ?_
  refine W.eq (g2 := F0 m 4 ls []) rfl ?_
  refine lv_aload_n hx hb dX7_init_4 rfl (lv_at hl 0 rfl) ?_
  refine lv_bipush (v := 30) hx hb dX7_init_5 (by decide) ?_
  refine g_newI hx hb ha_I hK hP hD hS hA 30 (by decide) (by decide) (Nat.le_of_ble_eq_true rfl) (Nat.le_of_ble_eq_true rfl) (Nat.le_of_ble_eq_true rfl) dX7_init_7 (fun q1 H hP hD hS => ?_)
  have hP : va_P D vwCl [(h0, .inr (7, [.int 0, .int 0, .null, .null, .null, .null, .null, .null])), (q1, .inl (kc 1, 30, .inl (fun _ => 0)))] H := hP
  have hD : va_D A [(h0, .inr (7, [.int 0, .int 0, .null, .null, .null, .null, .null, .null])), (q1, .inl (kc 1, 30, .inl (fun _ => 0)))] := hD
  refine va_putF (D := D) (ci := 7) (v := .ref q1) (ty := .array .int) (C := RX7) (T := TX7) (N := 8) hx hb hts in_X7 tyX7 tyX7_ok nmX7 hown hK hP hD hS 0 rfl rfl 2 (by decide) lk_9 (fun _ h9 => h9) rfl hin rfl (by decide +kernel) rfl rfl (Nat.le_of_ble_eq_true rfl) dX7_init_9 (fun H locs hP hD hS => ?_)
  have hP : va_P D vwCl [(h0, .inr (7, [.int 0, .int 0, .ref q1, .null, .null, .null, .null, .null])), (q1, .inl (kc 1, 30, .inl (fun _ => 0)))] H := hP
  have hD : va_D A [(h0, .inr (7, [.int 0, .int 0, .ref q1, .null, .null, .null, .null, .null])), (q1, .inl (kc 1, 30, .inl (fun _ => 0)))] := hD
  refine lv_aload_n hx hb dX7_init_12 rfl (lv_at hl 0 rfl) ?_
  refine lv_bipush (v := 30) hx hb dX7_init_13 (by decide) ?_
  refine g_newI hx hb ha_I hK hP hD hS hA 30 (by decide) (by decide) (Nat.le_of_ble_eq_true rfl) (Nat.le_of_ble_eq_true rfl) (Nat.le_of_ble_eq_true rfl) dX7_init_15 (fun q2 H hP hD hS => ?_)
  have hP : va_P D vwCl [(h0, .inr (7, [.int 0, .int 0, .ref q1, .null, .null, .null, .null, .null])), (q1, .inl (kc 1, 30, .inl (fun _ => 0))), (q2, .inl (kc 1, 30, .inl (fun _ => 0)))] H := hP
  have hD : va_D A [(h0, .inr (7, [.int 0, .int 0, .ref q1, .null, .null, .null, .null, .null])), (q1, .inl (kc 1, 30, .inl (fun _ => 0))), (q2, .inl (kc 1, 30, .inl (fun _ => 0)))] := hD
  refine va_putF (D := D) (ci := 7) (v := .ref q2) (ty := .array .int) (C := RX7) (T := TX7) (N := 8) hx hb hts in_X7 tyX7 tyX7_ok nmX7 hown hK hP hD hS 0 rfl rfl 3 (by decide) lk_15 (fun _ h9 => h9) rfl hin rfl (by decide +kernel) rfl rfl (Nat.le_of_ble_eq_true rfl) dX7_init_17 (fun H locs hP hD hS => ?_)
  have hP : va_P D vwCl [(h0, .inr (7, [.int 0, .int 0, .ref q1, .ref q2, .null, .null, .null, .null])), (q1, .inl (kc 1, 30, .inl (fun _ => 0))), (q2, .inl (kc 1, 30, .inl (fun _ => 0)))] H := hP
  have hD : va_D A [(h0, .inr (7, [.int 0, .int 0, .ref q1, .ref q2, .null, .null, .null, .null])), (q1, .inl (kc 1, 30, .inl (fun _ => 0))), (q2, .inl (kc 1, 30, .inl (fun _ => 0)))] := hD
  refine lv_aload_n hx hb dX7_init_20 rfl (lv_at hl 0 rfl) ?_
  refine lv_bipush (v := 36) hx hb dX7_init_21 (by decide) ?_
  refine g_newI hx hb ha_I hK hP hD hS hA 36 (by decide) (by decide) (Nat.le_of_ble_eq_true rfl) (Nat.le_of_ble_eq_true rfl) (Nat.le_of_ble_eq_true rfl) dX7_init_23 (fun q3 H hP hD hS => ?_)
  have hP : va_P D vwCl [(h0, .inr (7, [.int 0, .int 0, .ref q1, .ref q2, .null, .null, .null, .null])), (q1, .inl (kc 1, 30, .inl (fun _ => 0))), (q2, .inl (kc 1, 30, .inl (fun _ => 0))), (q3, .inl (kc 1, 36, .inl (fun _ => 0)))] H := hP
  have hD : va_D A [(h0, .inr (7, [.int 0, .int 0, .ref q1, .ref q2, .null, .null, .null, .null])), (q1, .inl (kc 1, 30, .inl (fun _ => 0))), (q2, .inl (kc 1, 30, .inl (fun _ => 0))), (q3, .inl (kc 1, 36, .inl (fun _ => 0)))] := hD
  refine va_putF (D := D) (ci := 7) (v := .ref q3) (ty := .array .int) (C := RX7) (T := TX7) (N := 8) hx hb hts in_X7 tyX7 tyX7_ok nmX7 hown hK hP hD hS 0 rfl rfl 4 (by decide) lk_18 (fun _ h9 => h9) rfl hin rfl (by decide +kernel) rfl rfl (Nat.le_of_ble_eq_true rfl) dX7_init_25 (fun H locs hP hD hS => ?_)
  have hP : va_P D vwCl [(h0, .inr (7, [.int 0, .int 0, .ref q1, .ref q2, .ref q3, .null, .null, .null])), (q1, .inl (kc 1, 30, .inl (fun _ => 0))), (q2, .inl (kc 1, 30, .inl (fun _ => 0))), (q3, .inl (kc 1, 36, .inl (fun _ => 0)))] H := hP
  have hD : va_D A [(h0, .inr (7, [.int 0, .int 0, .ref q1, .ref q2, .ref q3, .null, .null, .null])), (q1, .inl (kc 1, 30, .inl (fun _ => 0))), (q2, .inl (kc 1, 30, .inl (fun _ => 0))), (q3, .inl (kc 1, 36, .inl (fun _ => 0)))] := hD
  refine lv_aload_n hx hb dX7_init_28 rfl (lv_at hl 0 rfl) ?_
  refine lv_bipush (v := 54) hx hb dX7_init_29 (by decide) ?_
  refine g_newI hx hb ha_I hK hP hD hS hA 54 (by decide) (by decide) (Nat.le_of_ble_eq_true rfl) (Nat.le_of_ble_eq_true rfl) (Nat.le_of_ble_eq_true rfl) dX7_init_31 (fun q4 H hP hD hS => ?_)
  have hP : va_P D vwCl [(h0, .inr (7, [.int 0, .int 0, .ref q1, .ref q2, .ref q3, .null, .null, .null])), (q1, .inl (kc 1, 30, .inl (fun _ => 0))), (q2, .inl (kc 1, 30, .inl (fun _ => 0))), (q3, .inl (kc 1, 36, .inl (fun _ => 0))), (q4, .inl (kc 1, 54, .inl (fun _ => 0)))] H := hP
  have hD : va_D A [(h0, .inr (7, [.int 0, .int 0, .ref q1, .ref q2, .ref q3, .null, .null, .null])), (q1, .inl (kc 1, 30, .inl (fun _ => 0))), (q2, .inl (kc 1, 30, .inl (fun _ => 0))), (q3, .inl (kc 1, 36, .inl (fun _ => 0))), (q4, .inl (kc 1, 54, .inl (fun _ => 0)))] := hD
  refine va_putF (D := D) (ci := 7) (v := .ref q4) (ty := .array .int) (C := RX7) (T := TX7) (N := 8) hx hb hts in_X7 tyX7 tyX7_ok nmX7 hown hK hP hD hS 0 rfl rfl 5 (by decide) lk_21 (fun _ h9 => h9) rfl hin rfl (by decide +kernel) rfl rfl (Nat.le_of_ble_eq_true rfl) dX7_init_33 (fun H locs hP hD hS => ?_)
  have hP : va_P D vwCl [(h0, .inr (7, [.int 0, .int 0, .ref q1, .ref q2, .ref q3, .ref q4, .null, .null])), (q1, .inl (kc 1, 30, .inl (fun _ => 0))), (q2, .inl (kc 1, 30, .inl (fun _ => 0))), (q3, .inl (kc 1, 36, .inl (fun _ => 0))), (q4, .inl (kc 1, 54, .inl (fun _ => 0)))] H := hP
  have hD : va_D A [(h0, .inr (7, [.int 0, .int 0, .ref q1, .ref q2, .ref q3, .ref q4, .null, .null])), (q1, .inl (kc 1, 30, .inl (fun _ => 0))), (q2, .inl (kc 1, 30, .inl (fun _ => 0))), (q3, .inl (kc 1, 36, .inl (fun _ => 0))), (q4, .inl (kc 1, 54, .inl (fun _ => 0)))] := hD
  refine lv_aload_n hx hb dX7_init_36 rfl (lv_at hl 0 rfl) ?_
  refine lv_bipush (v := 6) hx hb dX7_init_37 (by decide) ?_
  refine g_newI hx hb ha_I hK hP hD hS hA 6 (by decide) (by decide) (Nat.le_of_ble_eq_true rfl) (Nat.le_of_ble_eq_true rfl) (Nat.le_of_ble_eq_true rfl) dX7_init_39 (fun q5 H hP hD hS => ?_)
  have hP : va_P D vwCl [(h0, .inr (7, [.int 0, .int 0, .ref q1, .ref q2, .ref q3, .ref q4, .null, .null])), (q1, .inl (kc 1, 30, .inl (fun _ => 0))), (q2, .inl (kc 1, 30, .inl (fun _ => 0))), (q3, .inl (kc 1, 36, .inl (fun _ => 0))), (q4, .inl (kc 1, 54, .inl (fun _ => 0))), (q5, .inl (kc 1, 6, .inl (fun _ => 0)))] H := hP
  have hD : va_D A [(h0, .inr (7, [.int 0, .int 0, .ref q1, .ref q2, .ref q3, .ref q4, .null, .null])), (q1, .inl (kc 1, 30, .inl (fun _ => 0))), (q2, .inl (kc 1, 30, .inl (fun _ => 0))), (q3, .inl (kc 1, 36, .inl (fun _ => 0))), (q4, .inl (kc 1, 54, .inl (fun _ => 0))), (q5, .inl (kc 1, 6, .inl (fun _ => 0)))] := hD
  refine va_putF (D := D) (ci := 7) (v := .ref q5) (ty := .array .int) (C := RX7) (T := TX7) (N := 8) hx hb hts in_X7 tyX7 tyX7_ok nmX7 hown hK hP hD hS 0 rfl rfl 6 (by decide) lk_24 (fun _ h9 => h9) rfl hin rfl (by decide +kernel) rfl rfl (Nat.le_of_ble_eq_true rfl) dX7_init_41 (fun H locs hP hD hS => ?_)
  have hP : va_P D vwCl [(h0, .inr (7, [.int 0, .int 0, .ref q1, .ref q2, .ref q3, .ref q4, .ref q5, .null])), (q1, .inl (kc 1, 30, .inl (fun _ => 0))), (q2, .inl (kc 1, 30, .inl (fun _ => 0))), (q3, .inl (kc 1, 36, .inl (fun _ => 0))), (q4, .inl (kc 1, 54, .inl (fun _ => 0))), (q5, .inl (kc 1, 6, .inl (fun _ => 0)))] H := hP
  have hD : va_D A [(h0, .inr (7, [.int 0, .int 0, .ref q1, .ref q2, .ref q3, .ref q4, .ref q5, .null])), (q1, .inl (kc 1, 30, .inl (fun _ => 0))), (q2, .inl (kc 1, 30, .inl (fun _ => 0))), (q3, .inl (kc 1, 36, .inl (fun _ => 0))), (q4, .inl (kc 1, 54, .inl (fun _ => 0))), (q5, .inl (kc 1, 6, .inl (fun _ => 0)))] := hD
  refine lv_aload_n hx hb dX7_init_44 rfl (lv_at hl 0 rfl) ?_
  refine lv_bipush (v := 48) hx hb dX7_init_45 (by decide) ?_
  refine g_newI hx hb ha_I hK hP hD hS hA 48 (by decide) (by decide) (Nat.le_of_ble_eq_true rfl) (Nat.le_of_ble_eq_true rfl) (Nat.le_of_ble_eq_true rfl) dX7_init_47 (fun q6 H hP hD hS => ?_)
  have hP : va_P D vwCl [(h0, .inr (7, [.int 0, .int 0, .ref q1, .ref q2, .ref q3, .ref q4, .ref q5, .null])), (q1, .inl (kc 1, 30, .inl (fun _ => 0))), (q2, .inl (kc 1, 30, .inl (fun _ => 0))), (q3, .inl (kc 1, 36, .inl (fun _ => 0))), (q4, .inl (kc 1, 54, .inl (fun _ => 0))), (q5, .inl (kc 1, 6, .inl (fun _ => 0))), (q6, .inl (kc 1, 48, .inl (fun _ => 0)))] H := hP
  have hD : va_D A [(h0, .inr (7, [.int 0, .int 0, .ref q1, .ref q2, .ref q3, .ref q4, .ref q5, .null])), (q1, .inl (kc 1, 30, .inl (fun _ => 0))), (q2, .inl (kc 1, 30, .inl (fun _ => 0))), (q3, .inl (kc 1, 36, .inl (fun _ => 0))), (q4, .inl (kc 1, 54, .inl (fun _ => 0))), (q5, .inl (kc 1, 6, .inl (fun _ => 0))), (q6, .inl (kc 1, 48, .inl (fun _ => 0)))] := hD
  refine va_putF (D := D) (ci := 7) (v := .ref q6) (ty := .array .int) (C := RX7) (T := TX7) (N := 8) hx hb hts in_X7 tyX7 tyX7_ok nmX7 hown hK hP hD hS 0 rfl rfl 7 (by decide) lk_27 (fun _ h9 => h9) rfl hin rfl (by decide +kernel) rfl rfl (Nat.le_of_ble_eq_true rfl) dX7_init_49 (fun H locs hP hD hS => ?_)
  have hP : va_P D vwCl [(h0, .inr (7, [.int 0, .int 0, .ref q1, .ref q2, .ref q3, .ref q4, .ref q5, .ref q6])), (q1, .inl (kc 1, 30, .inl (fun _ => 0))), (q2, .inl (kc 1, 30, .inl (fun _ => 0))), (q3, .inl (kc 1, 36, .inl (fun _ => 0))), (q4, .inl (kc 1, 54, .inl (fun _ => 0))), (q5, .inl (kc 1, 6, .inl (fun _ => 0))), (q6, .inl (kc 1, 48, .inl (fun _ => 0)))] H := hP
  have hD : va_D A [(h0, .inr (7, [.int 0, .int 0, .ref q1, .ref q2, .ref q3, .ref q4, .ref q5, .ref q6])), (q1, .inl (kc 1, 30, .inl (fun _ => 0))), (q2, .inl (kc 1, 30, .inl (fun _ => 0))), (q3, .inl (kc 1, 36, .inl (fun _ => 0))), (q4, .inl (kc 1, 54, .inl (fun _ => 0))), (q5, .inl (kc 1, 6, .inl (fun _ => 0))), (q6, .inl (kc 1, 48, .inl (fun _ => 0)))] := hD
  have hP9 : va_P D vwCl (n_X7 kc h0 (fun k => ([q1, q2, q3, q4, q5, q6] : List Nat).getD k 0)) H := hP
  have hD9 : va_D A (n_X7 kc h0 (fun k => ([q1, q2, q3, q4, q5, q6] : List Nat).getD k 0)) := hD
  exact W.vret hx hb hr (fun t ht hW => ⟨⟨(fun k => ([q1, q2, q3, q4, q5, q6] : List Nat).getD k 0), rfl, trivial, by rw [ht]; exact hP9, va_K.moved hW.alike hK, by rw [hAe]; exact hD9⟩, by rw [hAe]; exact hS.F ht⟩) (by rw [hAe]; exact hS.2.2) dX7_init_52 hlocks
abbrev n_X0 (kc : Nat → ClassId) (h0 : Nat) (u : Nat → Nat) : va_W := [(h0, .inr (0, [.ref (u 0), .ref (u 1)])), ((u 0), .inl (kc 2, 6, .inr (.inl (fun _ => 0)))), ((u 1), .inl (kc 2, 6, .inr (.inl (fun _ => 0))))]
set_option maxHeartbeats 4000000 in
set_option maxRecDepth 100000 in
theorem k_X0 (l : Launch) (D : va_G) (kc : Nat → ClassId) (h0 : Nat) : MC l yX0_init wsX0_init ({ frames := 1, cells := 2, slots := 12, locals := 12 }) D kc h0 [(h0, .inr (0, [.null, .null]))] (n_X0 kc h0) 2 12 := by
  intro sz
  refine Met.ofW (cc := cX0_init) (maxL := 1) (ret := none) (by decide) rfl ?_
  intro p e s m args below meth c s₁ B hml hv
  obtain ⟨rfl, ⟨hsz, hP, hK, hD0, hN⟩, hC⟩ := hv
  have hr := B.returns
  have hlocks := B.notSynchronized
  have hx := B.exec
  have hb := B.bytes
  have hin : meth.name = "<init>" := (name_of_methodNamed B.named B.method).1
  have hts := atoms_spec (ws := wsX0_init) B.pre
  have hown : s.vm.findClass RX0 = some m.cls := findClass_of_methodNamed B.named
  subst hsz
  obtain ⟨A, hAe⟩ : ∃ A, va_A [(h0, .inr (0, [.null, .null]))] s.heap.size = A := ⟨_, rfl⟩
  have hD := hD0.self (sz := s.heap.size)
  have hA : ∀ q : Nat, s.heap.size ≤ q → A q := fun q h => by rw [← hAe]; exact Or.inr h
  rw [hAe] at hD
  have hS : va_S A s.heap s.heap [] := va_S.rf
  have hl := lv_entry [.ref h0] (n := 1) (Nat.le_of_ble_eq_true rfl)
  rw [lg_entry_eq]
  generalize (lg_sl [.ref h0] ++ List.replicate (1 - (lg_sl [.ref h0]).length) Slot.unset).toArray = ls at hl ⊢
  have hl : lv_has ls 1 [(0, .ref h0)] := hl
  have ha_J := hts (.arrayClass .long) (by decide +kernel)
  have in_X0 : ∀ w ∈ u_ws RX0 TX0 2, w ∈ wsX0_init := by decide +kernel
  have lk_9 := hts (.fieldLink RX0 9 "BalloonMail$Chances" "now" "[J") (by decide +kernel)
  have lk_15 := hts (.fieldLink RX0 15 "BalloonMail$Chances" "then" "[J") (by decide +kernel)
  refine lv_aload_n hx hb dX0_init_0 rfl (lv_at hl 0 rfl) ?_
  refine W.objInit hx hb hown (hts (.methodLink RX0 3 objectInit) (by decide +kernel)) (hts (.instanceMethod objectInit) (by decide +kernel)) (hts (.code objectInit ⟨#[0xb1]⟩ 1 none) (by decide +kernel)) rfl (by rw [hml]; exact hl.1) rfl dX0_init_1 (Nat.le_of_ble_eq_true rfl) (Nat.le_of_ble_eq_true rfl) ?_
  refine W.eq (g2 := F0 m 4 ls []) rfl ?_
  refine lv_aload_n hx hb dX0_init_4 rfl (lv_at hl 0 rfl) ?_
  refine lv_bipush (v := 6) hx hb dX0_init_5 (by decide) ?_
  refine g_newJ hx hb ha_J hK hP hD hS hA 6 (by decide) (by decide) (Nat.le_of_ble_eq_true rfl) (Nat.le_of_ble_eq_true rfl) (Nat.le_of_ble_eq_true rfl) dX0_init_7 (fun q1 H hP hD hS => ?_)
  have hP : va_P D vwCl [(h0, .inr (0, [.null, .null])), (q1, .inl (kc 2, 6, .inr (.inl (fun _ => 0))))] H := hP
  have hD : va_D A [(h0, .inr (0, [.null, .null])), (q1, .inl (kc 2, 6, .inr (.inl (fun _ => 0))))] := hD
  refine va_putF (D := D) (ci := 0) (v := .ref q1) (ty := .array .long) (C := RX0) (T := TX0) (N := 2) hx hb hts in_X0 tyX0 tyX0_ok nmX0 hown hK hP hD hS 0 rfl rfl 0 (by decide) lk_9 (fun _ h9 => h9) rfl hin rfl (by decide +kernel) rfl rfl (Nat.le_of_ble_eq_true rfl) dX0_init_9 (fun H locs hP hD hS => ?_)
  have hP : va_P D vwCl [(h0, .inr (0, [.ref q1, .null])), (q1, .inl (kc 2, 6, .inr (.inl (fun _ => 0))))] H := hP
  have hD : va_D A [(h0, .inr (0, [.ref q1, .null])), (q1, .inl (kc 2, 6, .inr (.inl (fun _ => 0))))] := hD
  refine lv_aload_n hx hb dX0_init_12 rfl (lv_at hl 0 rfl) ?_
  refine lv_bipush (v := 6) hx hb dX0_init_13 (by decide) ?_
  refine g_newJ hx hb ha_J hK hP hD hS hA 6 (by decide) (by decide) (Nat.le_of_ble_eq_true rfl) (Nat.le_of_ble_eq_true rfl) (Nat.le_of_ble_eq_true rfl) dX0_init_15 (fun q2 H hP hD hS => ?_)
  have hP : va_P D vwCl [(h0, .inr (0, [.ref q1, .null])), (q1, .inl (kc 2, 6, .inr (.inl (fun _ => 0)))), (q2, .inl (kc 2, 6, .inr (.inl (fun _ => 0))))] H := hP
  have hD : va_D A [(h0, .inr (0, [.ref q1, .null])), (q1, .inl (kc 2, 6, .inr (.inl (fun _ => 0)))), (q2, .inl (kc 2, 6, .inr (.inl (fun _ => 0))))] := hD
  refine va_putF (D := D) (ci := 0) (v := .ref q2) (ty := .array .long) (C := RX0) (T := TX0) (N := 2) hx hb hts in_X0 tyX0 tyX0_ok nmX0 hown hK hP hD hS 0 rfl rfl 1 (by decide) lk_15 (fun _ h9 => h9) rfl hin rfl (by decide +kernel) rfl rfl (Nat.le_of_ble_eq_true rfl) dX0_init_17 (fun H locs hP hD hS => ?_)
  have hP : va_P D vwCl [(h0, .inr (0, [.ref q1, .ref q2])), (q1, .inl (kc 2, 6, .inr (.inl (fun _ => 0)))), (q2, .inl (kc 2, 6, .inr (.inl (fun _ => 0))))] H := hP
  have hD : va_D A [(h0, .inr (0, [.ref q1, .ref q2])), (q1, .inl (kc 2, 6, .inr (.inl (fun _ => 0)))), (q2, .inl (kc 2, 6, .inr (.inl (fun _ => 0))))] := hD
  have hP9 : va_P D vwCl (n_X0 kc h0 (fun k => ([q1, q2] : List Nat).getD k 0)) H := hP
  have hD9 : va_D A (n_X0 kc h0 (fun k => ([q1, q2] : List Nat).getD k 0)) := hD
  exact W.vret hx hb hr (fun t ht hW => ⟨⟨(fun k => ([q1, q2] : List Nat).getD k 0), rfl, trivial, by rw [ht]; exact hP9, va_K.moved hW.alike hK, by rw [hAe]; exact hD9⟩, by rw [hAe]; exact hS.F ht⟩) (by rw [hAe]; exact hS.2.2) dX0_init_20 hlocks
abbrev n_X3 (kc : Nat → ClassId) (h0 : Nat) (u : Nat → Nat) : va_W := [(h0, .inr (3, [.ref (u 0), .ref (u 1), .ref (u 2), .int 0, .int 0, .int 0])), ((u 0), .inl (kc 2, 90, .inr (.inl (fun _ => 0)))), ((u 1), .inl (kc 2, 5632, .inr (.inl (fun _ => 0)))), ((u 2), .inl (kc 1, 10, .inl (fun _ => 0)))]
set_option maxHeartbeats 4000000 in
set_option maxRecDepth 100000 in
theorem k_X3 (l : Launch) (D : va_G) (kc : Nat → ClassId) (h0 : Nat) : MC l yX3_init wsX3_init ({ frames := 1, cells := 3, slots := 5732, locals := 12 }) D kc h0 [(h0, .inr (3, [.null, .null, .null, .int 0, .int 0, .int 0]))] (n_X3 kc h0) 3 5732 := by
  intro sz
  refine Met.ofW (cc := cX3_init) (maxL := 1) (ret := none) (by decide) rfl ?_
  intro p e s m args below meth c s₁ B hml hv
  obtain ⟨rfl, ⟨hsz, hP, hK, hD0, hN⟩, hC⟩ := hv
  have hr := B.returns
  have hlocks := B.notSynchronized
  have hx := B.exec
  have hb := B.bytes
  have hin : meth.name = "<init>" := (name_of_methodNamed B.named B.method).1
  have hts := atoms_spec (ws := wsX3_init) B.pre
  have hown : s.vm.findClass RX3 = some m.cls := findClass_of_methodNamed B.named
  subst hsz
  obtain ⟨A, hAe⟩ : ∃ A, va_A [(h0, .inr (3, [.null, .null, .null, .int 0, .int 0, .int 0]))] s.heap.size = A := ⟨_, rfl⟩
  have hD := hD0.self (sz := s.heap.size)
  have hA : ∀ q : Nat, s.heap.size ≤ q → A q := fun q h => by rw [← hAe]; exact Or.inr h
  rw [hAe] at hD
  have hS : va_S A s.heap s.heap [] := va_S.rf
  have hl := lv_entry [.ref h0] (n := 1) (Nat.le_of_ble_eq_true rfl)
  rw [lg_entry_eq]
  generalize (lg_sl [.ref h0] ++ List.replicate (1 - (lg_sl [.ref h0]).length) Slot.unset).toArray = ls at hl ⊢
  have hl : lv_has ls 1 [(0, .ref h0)] := hl
  have ha_J := hts (.arrayClass .long) (by decide +kernel)
  have in_X3 : ∀ w ∈ u_ws RX3 TX3 6, w ∈ wsX3_init := by decide +kernel
  have lk_9 := hts (.fieldLink RX3 9 "BalloonMail$Planner" "gain" "[J") (by decide +kernel)
  have lk_15 := hts (.fieldLink RX3 15 "BalloonMail$Planner" "best" "[J") (by decide +kernel)
  have ha_I := hts (.arrayClass .int) (by decide +kernel)
  have lk_18 := hts (.fieldLink RX3 18 "BalloonMail$Planner" "chosen" "[I") (by decide +kernel)
  refine lv_aload_n hx hb dX3_init_0 rfl (lv_at hl 0 rfl) ?_
  refine W.objInit hx hb hown (hts (.methodLink RX3 3 objectInit) (by decide +kernel)) (hts (.instanceMethod objectInit) (by decide +kernel)) (hts (.code objectInit ⟨#[0xb1]⟩ 1 none) (by decide +kernel)) rfl (by rw [hml]; exact hl.1) rfl dX3_init_1 (Nat.le_of_ble_eq_true rfl) (Nat.le_of_ble_eq_true rfl) ?_
  refine W.eq (g2 := F0 m 4 ls []) rfl ?_
  refine lv_aload_n hx hb dX3_init_4 rfl (lv_at hl 0 rfl) ?_
  refine lv_bipush (v := 90) hx hb dX3_init_5 (by decide) ?_
  refine g_newJ hx hb ha_J hK hP hD hS hA 90 (by decide) (by decide) (Nat.le_of_ble_eq_true rfl) (Nat.le_of_ble_eq_true rfl) (Nat.le_of_ble_eq_true rfl) dX3_init_7 (fun q1 H hP hD hS => ?_)
  have hP : va_P D vwCl [(h0, .inr (3, [.null, .null, .null, .int 0, .int 0, .int 0])), (q1, .inl (kc 2, 90, .inr (.inl (fun _ => 0))))] H := hP
  have hD : va_D A [(h0, .inr (3, [.null, .null, .null, .int 0, .int 0, .int 0])), (q1, .inl (kc 2, 90, .inr (.inl (fun _ => 0))))] := hD
  refine va_putF (D := D) (ci := 3) (v := .ref q1) (ty := .array .long) (C := RX3) (T := TX3) (N := 6) hx hb hts in_X3 tyX3 tyX3_ok nmX3 hown hK hP hD hS 0 rfl rfl 0 (by decide) lk_9 (fun _ h9 => h9) rfl hin rfl (by decide +kernel) rfl rfl (Nat.le_of_ble_eq_true rfl) dX3_init_9 (fun H locs hP hD hS => ?_)
  have hP : va_P D vwCl [(h0, .inr (3, [.ref q1, .null, .null, .int 0, .int 0, .int 0])), (q1, .inl (kc 2, 90, .inr (.inl (fun _ => 0))))] H := hP
  have hD : va_D A [(h0, .inr (3, [.ref q1, .null, .null, .int 0, .int 0, .int 0])), (q1, .inl (kc 2, 90, .inr (.inl (fun _ => 0))))] := hD
  refine lv_aload_n hx hb dX3_init_12 rfl (lv_at hl 0 rfl) ?_
  refine lv_sipush (v := 5632) hx hb dX3_init_13 (by decide) ?_
  refine g_newJ hx hb ha_J hK hP hD hS hA 5632 (by decide) (by decide) (Nat.le_of_ble_eq_true rfl) (Nat.le_of_ble_eq_true rfl) (Nat.le_of_ble_eq_true rfl) dX3_init_16 (fun q2 H hP hD hS => ?_)
  have hP : va_P D vwCl [(h0, .inr (3, [.ref q1, .null, .null, .int 0, .int 0, .int 0])), (q1, .inl (kc 2, 90, .inr (.inl (fun _ => 0)))), (q2, .inl (kc 2, 5632, .inr (.inl (fun _ => 0))))] H := hP
  have hD : va_D A [(h0, .inr (3, [.ref q1, .null, .null, .int 0, .int 0, .int 0])), (q1, .inl (kc 2, 90, .inr (.inl (fun _ => 0)))), (q2, .inl (kc 2, 5632, .inr (.inl (fun _ => 0))))] := hD
  refine va_putF (D := D) (ci := 3) (v := .ref q2) (ty := .array .long) (C := RX3) (T := TX3) (N := 6) hx hb hts in_X3 tyX3 tyX3_ok nmX3 hown hK hP hD hS 0 rfl rfl 1 (by decide) lk_15 (fun _ h9 => h9) rfl hin rfl (by decide +kernel) rfl rfl (Nat.le_of_ble_eq_true rfl) dX3_init_18 (fun H locs hP hD hS => ?_)
  have hP : va_P D vwCl [(h0, .inr (3, [.ref q1, .ref q2, .null, .int 0, .int 0, .int 0])), (q1, .inl (kc 2, 90, .inr (.inl (fun _ => 0)))), (q2, .inl (kc 2, 5632, .inr (.inl (fun _ => 0))))] H := hP
  have hD : va_D A [(h0, .inr (3, [.ref q1, .ref q2, .null, .int 0, .int 0, .int 0])), (q1, .inl (kc 2, 90, .inr (.inl (fun _ => 0)))), (q2, .inl (kc 2, 5632, .inr (.inl (fun _ => 0))))] := hD
  refine lv_aload_n hx hb dX3_init_21 rfl (lv_at hl 0 rfl) ?_
  refine lv_bipush (v := 10) hx hb dX3_init_22 (by decide) ?_
  refine g_newI hx hb ha_I hK hP hD hS hA 10 (by decide) (by decide) (Nat.le_of_ble_eq_true rfl) (Nat.le_of_ble_eq_true rfl) (Nat.le_of_ble_eq_true rfl) dX3_init_24 (fun q3 H hP hD hS => ?_)
  have hP : va_P D vwCl [(h0, .inr (3, [.ref q1, .ref q2, .null, .int 0, .int 0, .int 0])), (q1, .inl (kc 2, 90, .inr (.inl (fun _ => 0)))), (q2, .inl (kc 2, 5632, .inr (.inl (fun _ => 0)))), (q3, .inl (kc 1, 10, .inl (fun _ => 0)))] H := hP
  have hD : va_D A [(h0, .inr (3, [.ref q1, .ref q2, .null, .int 0, .int 0, .int 0])), (q1, .inl (kc 2, 90, .inr (.inl (fun _ => 0)))), (q2, .inl (kc 2, 5632, .inr (.inl (fun _ => 0)))), (q3, .inl (kc 1, 10, .inl (fun _ => 0)))] := hD
  refine va_putF (D := D) (ci := 3) (v := .ref q3) (ty := .array .int) (C := RX3) (T := TX3) (N := 6) hx hb hts in_X3 tyX3 tyX3_ok nmX3 hown hK hP hD hS 0 rfl rfl 2 (by decide) lk_18 (fun _ h9 => h9) rfl hin rfl (by decide +kernel) rfl rfl (Nat.le_of_ble_eq_true rfl) dX3_init_26 (fun H locs hP hD hS => ?_)
  have hP : va_P D vwCl [(h0, .inr (3, [.ref q1, .ref q2, .ref q3, .int 0, .int 0, .int 0])), (q1, .inl (kc 2, 90, .inr (.inl (fun _ => 0)))), (q2, .inl (kc 2, 5632, .inr (.inl (fun _ => 0)))), (q3, .inl (kc 1, 10, .inl (fun _ => 0)))] H := hP
  have hD : va_D A [(h0, .inr (3, [.ref q1, .ref q2, .ref q3, .int 0, .int 0, .int 0])), (q1, .inl (kc 2, 90, .inr (.inl (fun _ => 0)))), (q2, .inl (kc 2, 5632, .inr (.inl (fun _ => 0)))), (q3, .inl (kc 1, 10, .inl (fun _ => 0)))] := hD
  have hP9 : va_P D vwCl (n_X3 kc h0 (fun k => ([q1, q2, q3] : List Nat).getD k 0)) H := hP
  have hD9 : va_D A (n_X3 kc h0 (fun k => ([q1, q2, q3] : List Nat).getD k 0)) := hD
  exact W.vret hx hb hr (fun t ht hW => ⟨⟨(fun k => ([q1, q2, q3] : List Nat).getD k 0), rfl, trivial, by rw [ht]; exact hP9, va_K.moved hW.alike hK, by rw [hAe]; exact hD9⟩, by rw [hAe]; exact hS.F ht⟩) (by rw [hAe]; exact hS.2.2) dX3_init_29 hlocks
abbrev n_X2 (kc : Nat → ClassId) (h0 : Nat) (u : Nat → Nat) : va_W := [(h0, .inr (2, [.ref (u 0)])), ((u 0), .inl (kc 2, 217, .inr (.inl (fun _ => 0))))]
set_option maxHeartbeats 4000000 in
set_option maxRecDepth 100000 in
theorem k_X2 (l : Launch) (D : va_G) (kc : Nat → ClassId) (h0 : Nat) : MC l yX2_init wsX2_init ({ frames := 1, cells := 1, slots := 217, locals := 12 }) D kc h0 [(h0, .inr (2, [.null]))] (n_X2 kc h0) 1 217 := by
  intro sz
  refine Met.ofW (cc := cX2_init) (maxL := 1) (ret := none) (by decide) rfl ?_
  intro p e s m args below meth c s₁ B hml hv
  obtain ⟨rfl, ⟨hsz, hP, hK, hD0, hN⟩, hC⟩ := hv
  have hr := B.returns
  have hlocks := B.notSynchronized
  have hx := B.exec
  have hb := B.bytes
  have hin : meth.name = "<init>" := (name_of_methodNamed B.named B.method).1
  have hts := atoms_spec (ws := wsX2_init) B.pre
  have hown : s.vm.findClass RX2 = some m.cls := findClass_of_methodNamed B.named
  subst hsz
  obtain ⟨A, hAe⟩ : ∃ A, va_A [(h0, .inr (2, [.null]))] s.heap.size = A := ⟨_, rfl⟩
  have hD := hD0.self (sz := s.heap.size)
  have hA : ∀ q : Nat, s.heap.size ≤ q → A q := fun q h => by rw [← hAe]; exact Or.inr h
  rw [hAe] at hD
  have hS : va_S A s.heap s.heap [] := va_S.rf
  have hl := lv_entry [.ref h0] (n := 1) (Nat.le_of_ble_eq_true rfl)
  rw [lg_entry_eq]
  generalize (lg_sl [.ref h0] ++ List.replicate (1 - (lg_sl [.ref h0]).length) Slot.unset).toArray = ls at hl ⊢
  have hl : lv_has ls 1 [(0, .ref h0)] := hl
  have ha_J := hts (.arrayClass .long) (by decide +kernel)
  have in_X2 : ∀ w ∈ u_ws RX2 TX2 1, w ∈ wsX2_init := by decide +kernel
  have lk_11 := hts (.fieldLink RX2 11 "BalloonMail$Loader" "lightest" "[J") (by decide +kernel)
  refine lv_aload_n hx hb dX2_init_0 rfl (lv_at hl 0 rfl) ?_
  refine W.objInit hx hb hown (hts (.methodLink RX2 3 objectInit) (by decide +kernel)) (hts (.instanceMethod objectInit) (by decide +kernel)) (hts (.code objectInit ⟨#[0xb1]⟩ 1 none) (by decide +kernel)) rfl (by rw [hml]; exact hl.1) rfl dX2_init_1 (Nat.le_of_ble_eq_true rfl) (Nat.le_of_ble_eq_true rfl) ?_
  refine W.eq (g2 := F0 m 4 ls []) rfl ?_
  refine lv_aload_n hx hb dX2_init_4 rfl (lv_at hl 0 rfl) ?_
  refine lv_sipush (v := 217) hx hb dX2_init_5 (by decide) ?_
  refine g_newJ hx hb ha_J hK hP hD hS hA 217 (by decide) (by decide) (Nat.le_of_ble_eq_true rfl) (Nat.le_of_ble_eq_true rfl) (Nat.le_of_ble_eq_true rfl) dX2_init_8 (fun q1 H hP hD hS => ?_)
  have hP : va_P D vwCl [(h0, .inr (2, [.null])), (q1, .inl (kc 2, 217, .inr (.inl (fun _ => 0))))] H := hP
  have hD : va_D A [(h0, .inr (2, [.null])), (q1, .inl (kc 2, 217, .inr (.inl (fun _ => 0))))] := hD
  refine va_putF (D := D) (ci := 2) (v := .ref q1) (ty := .array .long) (C := RX2) (T := TX2) (N := 1) hx hb hts in_X2 tyX2 tyX2_ok nmX2 hown hK hP hD hS 0 rfl rfl 0 (by decide) lk_11 (fun _ h9 => h9) rfl hin rfl (by decide +kernel) rfl rfl (Nat.le_of_ble_eq_true rfl) dX2_init_10 (fun H locs hP hD hS => ?_)
  have hP : va_P D vwCl [(h0, .inr (2, [.ref q1])), (q1, .inl (kc 2, 217, .inr (.inl (fun _ => 0))))] H := hP
  have hD : va_D A [(h0, .inr (2, [.ref q1])), (q1, .inl (kc 2, 217, .inr (.inl (fun _ => 0))))] := hD
  have hP9 : va_P D vwCl (n_X2 kc h0 (fun k => ([q1] : List Nat).getD k 0)) H := hP
  have hD9 : va_D A (n_X2 kc h0 (fun k => ([q1] : List Nat).getD k 0)) := hD
  exact W.vret hx hb hr (fun t ht hW => ⟨⟨(fun k => ([q1] : List Nat).getD k 0), rfl, trivial, by rw [ht]; exact hP9, va_K.moved hW.alike hK, by rw [hAe]; exact hD9⟩, by rw [hAe]; exact hS.F ht⟩) (by rw [hAe]; exact hS.2.2) dX2_init_13 hlocks
abbrev n_X4 (kc : Nat → ClassId) (h0 : Nat) (u : Nat → Nat) : va_W := [(h0, .inr (4, [.int 0, .ref (u 0), .int 0, .int 0, .int 0, .int 0, .int 0, .int 0, .int 0, .int 0])), ((u 0), .inl (kc 0, 0, .inl (fun _ => 0)))]
set_option maxHeartbeats 4000000 in
set_option maxRecDepth 100000 in
theorem k_X4 (l : Launch) (D : va_G) (kc : Nat → ClassId) (h0 : Nat) : MC l yX4_init wsX4_init ({ frames := 1, cells := 1, slots := 0, locals := 12 }) D kc h0 [(h0, .inr (4, [.int 0, .null, .int 0, .int 0, .int 0, .int 0, .int 0, .int 0, .int 0, .int 0]))] (n_X4 kc h0) 1 0 := by
  intro sz
  refine Met.ofW (cc := cX4_init) (maxL := 1) (ret := none) (by decide) rfl ?_
  intro p e s m args below meth c s₁ B hml hv
  obtain ⟨rfl, ⟨hsz, hP, hK, hD0, hN⟩, hC⟩ := hv
  have hr := B.returns
  have hlocks := B.notSynchronized
  have hx := B.exec
  have hb := B.bytes
  have hin : meth.name = "<init>" := (name_of_methodNamed B.named B.method).1
  have hts := atoms_spec (ws := wsX4_init) B.pre
  have hown : s.vm.findClass RX4 = some m.cls := findClass_of_methodNamed B.named
  subst hsz
  obtain ⟨A, hAe⟩ : ∃ A, va_A [(h0, .inr (4, [.int 0, .null, .int 0, .int 0, .int 0, .int 0, .int 0, .int 0, .int 0, .int 0]))] s.heap.size = A := ⟨_, rfl⟩
  have hD := hD0.self (sz := s.heap.size)
  have hA : ∀ q : Nat, s.heap.size ≤ q → A q := fun q h => by rw [← hAe]; exact Or.inr h
  rw [hAe] at hD
  have hS : va_S A s.heap s.heap [] := va_S.rf
  have hl := lv_entry [.ref h0] (n := 1) (Nat.le_of_ble_eq_true rfl)
  rw [lg_entry_eq]
  generalize (lg_sl [.ref h0] ++ List.replicate (1 - (lg_sl [.ref h0]).length) Slot.unset).toArray = ls at hl ⊢
  have hl : lv_has ls 1 [(0, .ref h0)] := hl
  have ha_B := hts (.arrayClass .byte) (by decide +kernel)
  have in_X4 : ∀ w ∈ u_ws RX4 TX4 10, w ∈ wsX4_init := by decide +kernel
  have lk_9 := hts (.fieldLink RX4 9 "BalloonMail$Reader" "text" "[B") (by decide +kernel)
  refine lv_aload_n hx hb dX4_init_0 rfl (lv_at hl 0 rfl) ?_
  refine W.objInit hx hb hown (hts (.methodLink RX4 3 objectInit) (by decide +kernel)) (hts (.instanceMethod objectInit) (by decide +kernel)) (hts (.code objectInit ⟨#[0xb1]⟩ 1 none) (by decide +kernel)) rfl (by rw [hml]; exact hl.1) rfl dX4_init_1 (Nat.le_of_ble_eq_true rfl) (Nat.le_of_ble_eq_true rfl) ?_
  refine W.eq (g2 := F0 m 4 ls []) rfl ?_
  refine lv_aload_n hx hb dX4_init_4 rfl (lv_at hl 0 rfl) ?_
  refine lv_iconst (v := 0) hx hb dX4_init_5 (by decide) ?_
  refine g_newB hx hb ha_B hK hP hD hS hA 0 (by decide) (by decide) (Nat.le_of_ble_eq_true rfl) (Nat.le_of_ble_eq_true rfl) (Nat.le_of_ble_eq_true rfl) dX4_init_6 (fun q1 H hP hD hS => ?_)
  have hP : va_P D vwCl [(h0, .inr (4, [.int 0, .null, .int 0, .int 0, .int 0, .int 0, .int 0, .int 0, .int 0, .int 0])), (q1, .inl (kc 0, 0, .inl (fun _ => 0)))] H := hP
  have hD : va_D A [(h0, .inr (4, [.int 0, .null, .int 0, .int 0, .int 0, .int 0, .int 0, .int 0, .int 0, .int 0])), (q1, .inl (kc 0, 0, .inl (fun _ => 0)))] := hD
  refine va_put (D := D) (ci := 4) (v := .ref q1) (ty := .array .byte) (C := RX4) (T := TX4) (N := 10) hx hb hts in_X4 tyX4 tyX4_ok nmX4 hown hK hP hD hS 0 rfl rfl 1 (by decide) lk_9 (fun _ h9 => h9) rfl (by decide +kernel) rfl rfl (Nat.le_of_ble_eq_true rfl) dX4_init_8 (fun H locs hP hD hS => ?_)
  have hP : va_P D vwCl [(h0, .inr (4, [.int 0, .ref q1, .int 0, .int 0, .int 0, .int 0, .int 0, .int 0, .int 0, .int 0])), (q1, .inl (kc 0, 0, .inl (fun _ => 0)))] H := hP
  have hD : va_D A [(h0, .inr (4, [.int 0, .ref q1, .int 0, .int 0, .int 0, .int 0, .int 0, .int 0, .int 0, .int 0])), (q1, .inl (kc 0, 0, .inl (fun _ => 0)))] := hD
  have hP9 : va_P D vwCl (n_X4 kc h0 (fun k => ([q1] : List Nat).getD k 0)) H := hP
  have hD9 : va_D A (n_X4 kc h0 (fun k => ([q1] : List Nat).getD k 0)) := hD
  exact W.vret hx hb hr (fun t ht hW => ⟨⟨(fun k => ([q1] : List Nat).getD k 0), rfl, trivial, by rw [ht]; exact hP9, va_K.moved hW.alike hK, by rw [hAe]; exact hD9⟩, by rw [hAe]; exact hS.F ht⟩) (by rw [hAe]; exact hS.2.2) dX4_init_11 hlocks
abbrev n_X5 (kc : Nat → ClassId) (h0 : Nat) (u : Nat → Nat) : va_W := [(h0, .inr (5, [.ref (u 0), .ref (u 7), .ref (u 8), .ref (u 9), .ref (u 10), .ref (u 11), .ref (u 12), .ref (u 13), .int 0, .int 0, .int 0, .int 8, .int 0, .int 1])), ((u 0), .inr (7, [.int 0, .int 0, .ref (u 1), .ref (u 2), .ref (u 3), .ref (u 4), .ref (u 5), .ref (u 6)])), ((u 1), .inl (kc 1, 30, .inl (fun _ => 0))), ((u 2), .inl (kc 1, 30, .inl (fun _ => 0))), ((u 3), .inl (kc 1, 36, .inl (fun _ => 0))), ((u 4), .inl (kc 1, 54, .inl (fun _ => 0))), ((u 5), .inl (kc 1, 6, .inl (fun _ => 0))), ((u 6), .inl (kc 1, 48, .inl (fun _ => 0))), ((u 7), .inl (kc 1, 8, .inl (fun _ => 0))), ((u 8), .inl (kc 1, 8, .inl (fun _ => 0))), ((u 9), .inl (kc 1, 8, .inl (fun _ => 0))), ((u 10), .inl (kc 1, 10, .inl (fun _ => 0))), ((u 11), .inl (kc 1, 10, .inl (fun _ => 0))), ((u 12), .inl (kc 1, 24, .inl (fun _ => 0))), ((u 13), .inl (kc 1, 24, .inl (fun _ => 0)))]
set_option maxHeartbeats 4000000 in
set_option maxRecDepth 100000 in
theorem k_X5 (l : Launch) (D : va_G) (kc : Nat → ClassId) (h0 : Nat) : MC l yX5_init wsX5_init ({ frames := 2, cells := 14, slots := 304, locals := 32 }) D kc h0 [(h0, .inr (5, [.null, .null, .null, .null, .null, .null, .null, .null, .int 0, .int 0, .int 0, .int 0, .int 0, .int 0]))] (n_X5 kc h0) 14 304 := by
  intro sz
  refine Met.ofW (cc := cX5_init) (maxL := 1) (ret := none) (by decide) rfl ?_
  intro p e s m args below meth c s₁ B hml hv
  obtain ⟨rfl, ⟨hsz, hP, hK, hD0, hN⟩, hC⟩ := hv
  have hr := B.returns
  have hlocks := B.notSynchronized
  have hx := B.exec
  have hb := B.bytes
  have hin : meth.name = "<init>" := (name_of_methodNamed B.named B.method).1
  have hts := atoms_spec (ws := wsX5_init) B.pre
  have hown : s.vm.findClass RX5 = some m.cls := findClass_of_methodNamed B.named
  subst hsz
  obtain ⟨A, hAe⟩ : ∃ A, va_A [(h0, .inr (5, [.null, .null, .null, .null, .null, .null, .null, .null, .int 0, .int 0, .int 0, .int 0, .int 0, .int 0]))] s.heap.size = A := ⟨_, rfl⟩
  have hD := hD0.self (sz := s.heap.size)
  have hA : ∀ q : Nat, s.heap.size ≤ q → A q := fun q h => by rw [← hAe]; exact Or.inr h
  rw [hAe] at hD
  have hS : va_S A s.heap s.heap [] := va_S.rf
  have hl := lv_entry [.ref h0] (n := 1) (Nat.le_of_ble_eq_true rfl)
  rw [lg_entry_eq]
  generalize (lg_sl [.ref h0] ++ List.replicate (1 - (lg_sl [.ref h0]).length) Slot.unset).toArray = ls at hl ⊢
  have hl : lv_has ls 1 [(0, .ref h0)] := hl
  have in_X7 : ∀ w ∈ u_ws RX7 TX7 8, w ∈ wsX5_init := by decide +kernel
  have in_X5 : ∀ w ∈ u_ws RX5 TX5 14, w ∈ wsX5_init := by decide +kernel
  have lk_12 := hts (.fieldLink RX5 12 "BalloonMail$Siege" "winds" "LBalloonMail$Winds;") (by decide +kernel)
  have ha_I := hts (.arrayClass .int) (by decide +kernel)
  have lk_18 := hts (.fieldLink RX5 18 "BalloonMail$Siege" "risk" "[I") (by decide +kernel)
  have lk_22 := hts (.fieldLink RX5 22 "BalloonMail$Siege" "distance" "[I") (by decide +kernel)
  have lk_25 := hts (.fieldLink RX5 25 "BalloonMail$Siege" "comeback" "[I") (by decide +kernel)
  have lk_28 := hts (.fieldLink RX5 28 "BalloonMail$Siege" "capacity" "[I") (by decide +kernel)
  have lk_31 := hts (.fieldLink RX5 31 "BalloonMail$Siege" "pigeons" "[I") (by decide +kernel)
  have lk_34 := hts (.fieldLink RX5 34 "BalloonMail$Siege" "weight" "[I") (by decide +kernel)
  have lk_37 := hts (.fieldLink RX5 37 "BalloonMail$Siege" "priority" "[I") (by decide +kernel)
  have lk_40 := hts (.fieldLink RX5 40 "BalloonMail$Siege" "loft" "I") (by decide +kernel)
  have lk_44 := hts (.fieldLink RX5 44 "BalloonMail$Siege" "seed" "I") (by decide +kernel)
  refine lv_aload_n hx hb dX5_init_0 rfl (lv_at hl 0 rfl) ?_
  refine W.objInit hx hb hown (hts (.methodLink RX5 3 objectInit) (by decide +kernel)) (hts (.instanceMethod objectInit) (by decide +kernel)) (hts (.code objectInit ⟨#[0xb1]⟩ 1 none) (by decide +kernel)) rfl (by rw [hml]; exact hl.1) rfl dX5_init_1 (Nat.le_of_ble_eq_true rfl) (Nat.le_of_ble_eq_true rfl) ?_
  refine W.eq (g2 := F0 m 4 ls []) rfl ?_
  refine lv_aload_n hx hb dX5_init_4 rfl (lv_at hl 0 rfl) ?_
  refine va_new (ci := 7) (fs := [.int 0, .int 0, .null, .null, .null, .null, .null, .null]) (C := RX7) (T := TX7) (N := 8) hx hb hts in_X7 tyX7 tyX7_ok hown (hts (.classLink RX5 9 RX7) (by decide +kernel)) (hts (.instantiable RX7 8) (by decide +kernel)) (hts (.initialized RX7) (by decide +kernel)) hK hP hD hS hA rfl (fun j hj => by rcases (show j = 0 ∨ j = 1 ∨ j = 2 ∨ j = 3 ∨ j = 4 ∨ j = 5 ∨ j = 6 ∨ j = 7 by omega) with rfl | rfl | rfl | rfl | rfl | rfl | rfl | rfl <;> rfl) (Nat.le_of_ble_eq_true rfl) (Nat.le_of_ble_eq_true rfl) dX5_init_5 (fun q1 H hP hD hS => ?_)
  have hP : va_P D vwCl [(h0, .inr (5, [.null, .null, .null, .null, .null, .null, .null, .null, .int 0, .int 0, .int 0, .int 0, .int 0, .int 0])), (q1, .inr (7, [.int 0, .int 0, .null, .null, .null, .null, .null, .null]))] H := hP
  have hD : va_D A [(h0, .inr (5, [.null, .null, .null, .null, .null, .null, .null, .null, .int 0, .int 0, .int 0, .int 0, .int 0, .int 0])), (q1, .inr (7, [.int 0, .int 0, .null, .null, .null, .null, .null, .null]))] := hD
  refine lv_dup hx hb dX5_init_8 rfl ?_
  refine g_IN (X := [(h0, .inr (5, [.null, .null, .null, .null, .null, .null, .null, .null, .int 0, .int 0, .int 0, .int 0, .int 0, .int 0])), (q1, .inr (7, [.int 0, .int 0, .null, .null, .null, .null, .null, .null]))]) (pl := []) (rest := [.ref q1, .ref h0]) ⟨hx, hb, hml, hown, hts⟩ hN hC hK (by simpa using hP) (by simpa using hD) hS hA (k_X7 l D kc q1) ⟨va_cnB 0 hts gX5_init_X7_init_n11 rfl rfl rfl hC.2.2.2.2.2.2.1 (hts (.initialized RX7) (by decide +kernel)) (by decide +kernel) ⟨Nat.le_of_ble_eq_true rfl, Nat.le_of_ble_eq_true rfl⟩, rfl, hts (.instanceMethod yX7_init) (by decide +kernel)⟩ [1] [0] (by exact ⟨rfl, rfl, by decide⟩) hl.1 rfl (Nat.le_of_ble_eq_true rfl) dX5_init_9 ⟨Nat.le_of_ble_eq_true rfl, Nat.le_of_ble_eq_true rfl⟩ (fun u2 H locs hP hD hS => ?_)
  rw [List.append_nil] at hP hD
  have hP : va_P D vwCl [(h0, .inr (5, [.null, .null, .null, .null, .null, .null, .null, .null, .int 0, .int 0, .int 0, .int 0, .int 0, .int 0])), (q1, .inr (7, [.int 0, .int 0, .ref (u2 0), .ref (u2 1), .ref (u2 2), .ref (u2 3), .ref (u2 4), .ref (u2 5)])), ((u2 0), .inl (kc 1, 30, .inl (fun _ => 0))), ((u2 1), .inl (kc 1, 30, .inl (fun _ => 0))), ((u2 2), .inl (kc 1, 36, .inl (fun _ => 0))), ((u2 3), .inl (kc 1, 54, .inl (fun _ => 0))), ((u2 4), .inl (kc 1, 6, .inl (fun _ => 0))), ((u2 5), .inl (kc 1, 48, .inl (fun _ => 0)))] H := hP
  have hD : va_D A [(h0, .inr (5, [.null, .null, .null, .null, .null, .null, .null, .null, .int 0, .int 0, .int 0, .int 0, .int 0, .int 0])), (q1, .inr (7, [.int 0, .int 0, .ref (u2 0), .ref (u2 1), .ref (u2 2), .ref (u2 3), .ref (u2 4), .ref (u2 5)])), ((u2 0), .inl (kc 1, 30, .inl (fun _ => 0))), ((u2 1), .inl (kc 1, 30, .inl (fun _ => 0))), ((u2 2), .inl (kc 1, 36, .inl (fun _ => 0))), ((u2 3), .inl (kc 1, 54, .inl (fun _ => 0))), ((u2 4), .inl (kc 1, 6, .inl (fun _ => 0))), ((u2 5), .inl (kc 1, 48, .inl (fun _ => 0)))] := hD
  refine va_putF (D := D) (ci := 5) (v := .ref q1) (ty := .object "BalloonMail$Winds") (C := RX5) (T := TX5) (N := 14) hx hb hts in_X5 tyX5 tyX5_ok nmX5 hown hK hP hD hS 0 rfl rfl 0 (by decide) lk_12 (fun _ h9 => h9) rfl hin rfl (by decide +kernel) rfl rfl (Nat.le_of_ble_eq_true rfl) dX5_init_12 (fun H locs hP hD hS => ?_)
  have hP : va_P D vwCl [(h0, .inr (5, [.ref q1, .null, .null, .null, .null, .null, .null, .null, .int 0, .int 0, .int 0, .int 0, .int 0, .int 0])), (q1, .inr (7, [.int 0, .int 0, .ref (u2 0), .ref (u2 1), .ref (u2 2), .ref (u2 3), .ref (u2 4), .ref (u2 5)])), ((u2 0), .inl (kc 1, 30, .inl (fun _ => 0))), ((u2 1), .inl (kc 1, 30, .inl (fun _ => 0))), ((u2 2), .inl (kc 1, 36, .inl (fun _ => 0))), ((u2 3), .inl (kc 1, 54, .inl (fun _ => 0))), ((u2 4), .inl (kc 1, 6, .inl (fun _ => 0))), ((u2 5), .inl (kc 1, 48, .inl (fun _ => 0)))] H := hP
  have hD : va_D A [(h0, .inr (5, [.ref q1, .null, .null, .null, .null, .null, .null, .null, .int 0, .int 0, .int 0, .int 0, .int 0, .int 0])), (q1, .inr (7, [.int 0, .int 0, .ref (u2 0), .ref (u2 1), .ref (u2 2), .ref (u2 3), .ref (u2 4), .ref (u2 5)])), ((u2 0), .inl (kc 1, 30, .inl (fun _ => 0))), ((u2 1), .inl (kc 1, 30, .inl (fun _ => 0))), ((u2 2), .inl (kc 1, 36, .inl (fun _ => 0))), ((u2 3), .inl (kc 1, 54, .inl (fun _ => 0))), ((u2 4), .inl (kc 1, 6, .inl (fun _ => 0))), ((u2 5), .inl (kc 1, 48, .inl (fun _ => 0)))] := hD
  refine lv_aload_n hx hb dX5_init_15 rfl (lv_at hl 0 rfl) ?_
  refine lv_bipush (v := 8) hx hb dX5_init_16 (by decide) ?_
  refine g_newI hx hb ha_I hK hP hD hS hA 8 (by decide) (by decide) (Nat.le_of_ble_eq_true rfl) (Nat.le_of_ble_eq_true rfl) (Nat.le_of_ble_eq_true rfl) dX5_init_18 (fun q3 H hP hD hS => ?_)
  have hP : va_P D vwCl [(h0, .inr (5, [.ref q1, .null, .null, .null, .null, .null, .null, .null, .int 0, .int 0, .int 0, .int 0, .int 0, .int 0])), (q1, .inr (7, [.int 0, .int 0, .ref (u2 0), .ref (u2 1), .ref (u2 2), .ref (u2 3), .ref (u2 4), .ref (u2 5)])), ((u2 0), .inl (kc 1, 30, .inl (fun _ => 0))), ((u2 1), .inl (kc 1, 30, .inl (fun _ => 0))), ((u2 2), .inl (kc 1, 36, .inl (fun _ => 0))), ((u2 3), .inl (kc 1, 54, .inl (fun _ => 0))), ((u2 4), .inl (kc 1, 6, .inl (fun _ => 0))), ((u2 5), .inl (kc 1, 48, .inl (fun _ => 0))), (q3, .inl (kc 1, 8, .inl (fun _ => 0)))] H := hP
  have hD : va_D A [(h0, .inr (5, [.ref q1, .null, .null, .null, .null, .null, .null, .null, .int 0, .int 0, .int 0, .int 0, .int 0, .int 0])), (q1, .inr (7, [.int 0, .int 0, .ref (u2 0), .ref (u2 1), .ref (u2 2), .ref (u2 3), .ref (u2 4), .ref (u2 5)])), ((u2 0), .inl (kc 1, 30, .inl (fun _ => 0))), ((u2 1), .inl (kc 1, 30, .inl (fun _ => 0))), ((u2 2), .inl (kc 1, 36, .inl (fun _ => 0))), ((u2 3), .inl (kc 1, 54, .inl (fun _ => 0))), ((u2 4), .inl (kc 1, 6, .inl (fun _ => 0))), ((u2 5), .inl (kc 1, 48, .inl (fun _ => 0))), (q3, .inl (kc 1, 8, .inl (fun _ => 0)))] := hD
  refine va_putF (D := D) (ci := 5) (v := .ref q3) (ty := .array .int) (C := RX5) (T := TX5) (N := 14) hx hb hts in_X5 tyX5 tyX5_ok nmX5 hown hK hP hD hS 0 rfl rfl 1 (by decide) lk_18 (fun _ h9 => h9) rfl hin rfl (by decide +kernel) rfl rfl (Nat.le_of_ble_eq_true rfl) dX5_init_20 (fun H locs hP hD hS => ?_)
  have hP : va_P D vwCl [(h0, .inr (5, [.ref q1, .ref q3, .null, .null, .null, .null, .null, .null, .int 0, .int 0, .int 0, .int 0, .int 0, .int 0])), (q1, .inr (7, [.int 0, .int 0, .ref (u2 0), .ref (u2 1), .ref (u2 2), .ref (u2 3), .ref (u2 4), .ref (u2 5)])), ((u2 0), .inl (kc 1, 30, .inl (fun _ => 0))), ((u2 1), .inl (kc 1, 30, .inl (fun _ => 0))), ((u2 2), .inl (kc 1, 36, .inl (fun _ => 0))), ((u2 3), .inl (kc 1, 54, .inl (fun _ => 0))), ((u2 4), .inl (kc 1, 6, .inl (fun _ => 0))), ((u2 5), .inl (kc 1, 48, .inl (fun _ => 0))), (q3, .inl (kc 1, 8, .inl (fun _ => 0)))] H := hP
  have hD : va_D A [(h0, .inr (5, [.ref q1, .ref q3, .null, .null, .null, .null, .null, .null, .int 0, .int 0, .int 0, .int 0, .int 0, .int 0])), (q1, .inr (7, [.int 0, .int 0, .ref (u2 0), .ref (u2 1), .ref (u2 2), .ref (u2 3), .ref (u2 4), .ref (u2 5)])), ((u2 0), .inl (kc 1, 30, .inl (fun _ => 0))), ((u2 1), .inl (kc 1, 30, .inl (fun _ => 0))), ((u2 2), .inl (kc 1, 36, .inl (fun _ => 0))), ((u2 3), .inl (kc 1, 54, .inl (fun _ => 0))), ((u2 4), .inl (kc 1, 6, .inl (fun _ => 0))), ((u2 5), .inl (kc 1, 48, .inl (fun _ => 0))), (q3, .inl (kc 1, 8, .inl (fun _ => 0)))] := hD
  refine lv_aload_n hx hb dX5_init_23 rfl (lv_at hl 0 rfl) ?_
  refine lv_bipush (v := 8) hx hb dX5_init_24 (by decide) ?_
  refine g_newI hx hb ha_I hK hP hD hS hA 8 (by decide) (by decide) (Nat.le_of_ble_eq_true rfl) (Nat.le_of_ble_eq_true rfl) (Nat.le_of_ble_eq_true rfl) dX5_init_26 (fun q4 H hP hD hS => ?_)
  have hP : va_P D vwCl [(h0, .inr (5, [.ref q1, .ref q3, .null, .null, .null, .null, .null, .null, .int 0, .int 0, .int 0, .int 0, .int 0, .int 0])), (q1, .inr (7, [.int 0, .int 0, .ref (u2 0), .ref (u2 1), .ref (u2 2), .ref (u2 3), .ref (u2 4), .ref (u2 5)])), ((u2 0), .inl (kc 1, 30, .inl (fun _ => 0))), ((u2 1), .inl (kc 1, 30, .inl (fun _ => 0))), ((u2 2), .inl (kc 1, 36, .inl (fun _ => 0))), ((u2 3), .inl (kc 1, 54, .inl (fun _ => 0))), ((u2 4), .inl (kc 1, 6, .inl (fun _ => 0))), ((u2 5), .inl (kc 1, 48, .inl (fun _ => 0))), (q3, .inl (kc 1, 8, .inl (fun _ => 0))), (q4, .inl (kc 1, 8, .inl (fun _ => 0)))] H := hP
  have hD : va_D A [(h0, .inr (5, [.ref q1, .ref q3, .null, .null, .null, .null, .null, .null, .int 0, .int 0, .int 0, .int 0, .int 0, .int 0])), (q1, .inr (7, [.int 0, .int 0, .ref (u2 0), .ref (u2 1), .ref (u2 2), .ref (u2 3), .ref (u2 4), .ref (u2 5)])), ((u2 0), .inl (kc 1, 30, .inl (fun _ => 0))), ((u2 1), .inl (kc 1, 30, .inl (fun _ => 0))), ((u2 2), .inl (kc 1, 36, .inl (fun _ => 0))), ((u2 3), .inl (kc 1, 54, .inl (fun _ => 0))), ((u2 4), .inl (kc 1, 6, .inl (fun _ => 0))), ((u2 5), .inl (kc 1, 48, .inl (fun _ => 0))), (q3, .inl (kc 1, 8, .inl (fun _ => 0))), (q4, .inl (kc 1, 8, .inl (fun _ => 0)))] := hD
  refine va_putF (D := D) (ci := 5) (v := .ref q4) (ty := .array .int) (C := RX5) (T := TX5) (N := 14) hx hb hts in_X5 tyX5 tyX5_ok nmX5 hown hK hP hD hS 0 rfl rfl 2 (by decide) lk_22 (fun _ h9 => h9) rfl hin rfl (by decide +kernel) rfl rfl (Nat.le_of_ble_eq_true rfl) dX5_init_28 (fun H locs hP hD hS => ?_)
  have hP : va_P D vwCl [(h0, .inr (5, [.ref q1, .ref q3, .ref q4, .null, .null, .null, .null, .null, .int 0, .int 0, .int 0, .int 0, .int 0, .int 0])), (q1, .inr (7, [.int 0, .int 0, .ref (u2 0), .ref (u2 1), .ref (u2 2), .ref (u2 3), .ref (u2 4), .ref (u2 5)])), ((u2 0), .inl (kc 1, 30, .inl (fun _ => 0))), ((u2 1), .inl (kc 1, 30, .inl (fun _ => 0))), ((u2 2), .inl (kc 1, 36, .inl (fun _ => 0))), ((u2 3), .inl (kc 1, 54, .inl (fun _ => 0))), ((u2 4), .inl (kc 1, 6, .inl (fun _ => 0))), ((u2 5), .inl (kc 1, 48, .inl (fun _ => 0))), (q3, .inl (kc 1, 8, .inl (fun _ => 0))), (q4, .inl (kc 1, 8, .inl (fun _ => 0)))] H := hP
  have hD : va_D A [(h0, .inr (5, [.ref q1, .ref q3, .ref q4, .null, .null, .null, .null, .null, .int 0, .int 0, .int 0, .int 0, .int 0, .int 0])), (q1, .inr (7, [.int 0, .int 0, .ref (u2 0), .ref (u2 1), .ref (u2 2), .ref (u2 3), .ref (u2 4), .ref (u2 5)])), ((u2 0), .inl (kc 1, 30, .inl (fun _ => 0))), ((u2 1), .inl (kc 1, 30, .inl (fun _ => 0))), ((u2 2), .inl (kc 1, 36, .inl (fun _ => 0))), ((u2 3), .inl (kc 1, 54, .inl (fun _ => 0))), ((u2 4), .inl (kc 1, 6, .inl (fun _ => 0))), ((u2 5), .inl (kc 1, 48, .inl (fun _ => 0))), (q3, .inl (kc 1, 8, .inl (fun _ => 0))), (q4, .inl (kc 1, 8, .inl (fun _ => 0)))] := hD
  refine lv_aload_n hx hb dX5_init_31 rfl (lv_at hl 0 rfl) ?_
  refine lv_bipush (v := 8) hx hb dX5_init_32 (by decide) ?_
  refine g_newI hx hb ha_I hK hP hD hS hA 8 (by decide) (by decide) (Nat.le_of_ble_eq_true rfl) (Nat.le_of_ble_eq_true rfl) (Nat.le_of_ble_eq_true rfl) dX5_init_34 (fun q5 H hP hD hS => ?_)
  have hP : va_P D vwCl [(h0, .inr (5, [.ref q1, .ref q3, .ref q4, .null, .null, .null, .null, .null, .int 0, .int 0, .int 0, .int 0, .int 0, .int 0])), (q1, .inr (7, [.int 0, .int 0, .ref (u2 0), .ref (u2 1), .ref (u2 2), .ref (u2 3), .ref (u2 4), .ref (u2 5)])), ((u2 0), .inl (kc 1, 30, .inl (fun _ => 0))), ((u2 1), .inl (kc 1, 30, .inl (fun _ => 0))), ((u2 2), .inl (kc 1, 36, .inl (fun _ => 0))), ((u2 3), .inl (kc 1, 54, .inl (fun _ => 0))), ((u2 4), .inl (kc 1, 6, .inl (fun _ => 0))), ((u2 5), .inl (kc 1, 48, .inl (fun _ => 0))), (q3, .inl (kc 1, 8, .inl (fun _ => 0))), (q4, .inl (kc 1, 8, .inl (fun _ => 0))), (q5, .inl (kc 1, 8, .inl (fun _ => 0)))] H := hP
  have hD : va_D A [(h0, .inr (5, [.ref q1, .ref q3, .ref q4, .null, .null, .null, .null, .null, .int 0, .int 0, .int 0, .int 0, .int 0, .int 0])), (q1, .inr (7, [.int 0, .int 0, .ref (u2 0), .ref (u2 1), .ref (u2 2), .ref (u2 3), .ref (u2 4), .ref (u2 5)])), ((u2 0), .inl (kc 1, 30, .inl (fun _ => 0))), ((u2 1), .inl (kc 1, 30, .inl (fun _ => 0))), ((u2 2), .inl (kc 1, 36, .inl (fun _ => 0))), ((u2 3), .inl (kc 1, 54, .inl (fun _ => 0))), ((u2 4), .inl (kc 1, 6, .inl (fun _ => 0))), ((u2 5), .inl (kc 1, 48, .inl (fun _ => 0))), (q3, .inl (kc 1, 8, .inl (fun _ => 0))), (q4, .inl (kc 1, 8, .inl (fun _ => 0))), (q5, .inl (kc 1, 8, .inl (fun _ => 0)))] := hD
  refine va_putF (D := D) (ci := 5) (v := .ref q5) (ty := .array .int) (C := RX5) (T := TX5) (N := 14) hx hb hts in_X5 tyX5 tyX5_ok nmX5 hown hK hP hD hS 0 rfl rfl 3 (by decide) lk_25 (fun _ h9 => h9) rfl hin rfl (by decide +kernel) rfl rfl (Nat.le_of_ble_eq_true rfl) dX5_init_36 (fun H locs hP hD hS => ?_)
  have hP : va_P D vwCl [(h0, .inr (5, [.ref q1, .ref q3, .ref q4, .ref q5, .null, .null, .null, .null, .int 0, .int 0, .int 0, .int 0, .int 0, .int 0])), (q1, .inr (7, [.int 0, .int 0, .ref (u2 0), .ref (u2 1), .ref (u2 2), .ref (u2 3), .ref (u2 4), .ref (u2 5)])), ((u2 0), .inl (kc 1, 30, .inl (fun _ => 0))), ((u2 1), .inl (kc 1, 30, .inl (fun _ => 0))), ((u2 2), .inl (kc 1, 36, .inl (fun _ => 0))), ((u2 3), .inl (kc 1, 54, .inl (fun _ => 0))), ((u2 4), .inl (kc 1, 6, .inl (fun _ => 0))), ((u2 5), .inl (kc 1, 48, .inl (fun _ => 0))), (q3, .inl (kc 1, 8, .inl (fun _ => 0))), (q4, .inl (kc 1, 8, .inl (fun _ => 0))), (q5, .inl (kc 1, 8, .inl (fun _ => 0)))] H := hP
  have hD : va_D A [(h0, .inr (5, [.ref q1, .ref q3, .ref q4, .ref q5, .null, .null, .null, .null, .int 0, .int 0, .int 0, .int 0, .int 0, .int 0])), (q1, .inr (7, [.int 0, .int 0, .ref (u2 0), .ref (u2 1), .ref (u2 2), .ref (u2 3), .ref (u2 4), .ref (u2 5)])), ((u2 0), .inl (kc 1, 30, .inl (fun _ => 0))), ((u2 1), .inl (kc 1, 30, .inl (fun _ => 0))), ((u2 2), .inl (kc 1, 36, .inl (fun _ => 0))), ((u2 3), .inl (kc 1, 54, .inl (fun _ => 0))), ((u2 4), .inl (kc 1, 6, .inl (fun _ => 0))), ((u2 5), .inl (kc 1, 48, .inl (fun _ => 0))), (q3, .inl (kc 1, 8, .inl (fun _ => 0))), (q4, .inl (kc 1, 8, .inl (fun _ => 0))), (q5, .inl (kc 1, 8, .inl (fun _ => 0)))] := hD
  refine lv_aload_n hx hb dX5_init_39 rfl (lv_at hl 0 rfl) ?_
  refine lv_bipush (v := 10) hx hb dX5_init_40 (by decide) ?_
  refine g_newI hx hb ha_I hK hP hD hS hA 10 (by decide) (by decide) (Nat.le_of_ble_eq_true rfl) (Nat.le_of_ble_eq_true rfl) (Nat.le_of_ble_eq_true rfl) dX5_init_42 (fun q6 H hP hD hS => ?_)
  have hP : va_P D vwCl [(h0, .inr (5, [.ref q1, .ref q3, .ref q4, .ref q5, .null, .null, .null, .null, .int 0, .int 0, .int 0, .int 0, .int 0, .int 0])), (q1, .inr (7, [.int 0, .int 0, .ref (u2 0), .ref (u2 1), .ref (u2 2), .ref (u2 3), .ref (u2 4), .ref (u2 5)])), ((u2 0), .inl (kc 1, 30, .inl (fun _ => 0))), ((u2 1), .inl (kc 1, 30, .inl (fun _ => 0))), ((u2 2), .inl (kc 1, 36, .inl (fun _ => 0))), ((u2 3), .inl (kc 1, 54, .inl (fun _ => 0))), ((u2 4), .inl (kc 1, 6, .inl (fun _ => 0))), ((u2 5), .inl (kc 1, 48, .inl (fun _ => 0))), (q3, .inl (kc 1, 8, .inl (fun _ => 0))), (q4, .inl (kc 1, 8, .inl (fun _ => 0))), (q5, .inl (kc 1, 8, .inl (fun _ => 0))), (q6, .inl (kc 1, 10, .inl (fun _ => 0)))] H := hP
  have hD : va_D A [(h0, .inr (5, [.ref q1, .ref q3, .ref q4, .ref q5, .null, .null, .null, .null, .int 0, .int 0, .int 0, .int 0, .int 0, .int 0])), (q1, .inr (7, [.int 0, .int 0, .ref (u2 0), .ref (u2 1), .ref (u2 2), .ref (u2 3), .ref (u2 4), .ref (u2 5)])), ((u2 0), .inl (kc 1, 30, .inl (fun _ => 0))), ((u2 1), .inl (kc 1, 30, .inl (fun _ => 0))), ((u2 2), .inl (kc 1, 36, .inl (fun _ => 0))), ((u2 3), .inl (kc 1, 54, .inl (fun _ => 0))), ((u2 4), .inl (kc 1, 6, .inl (fun _ => 0))), ((u2 5), .inl (kc 1, 48, .inl (fun _ => 0))), (q3, .inl (kc 1, 8, .inl (fun _ => 0))), (q4, .inl (kc 1, 8, .inl (fun _ => 0))), (q5, .inl (kc 1, 8, .inl (fun _ => 0))), (q6, .inl (kc 1, 10, .inl (fun _ => 0)))] := hD
  refine va_putF (D := D) (ci := 5) (v := .ref q6) (ty := .array .int) (C := RX5) (T := TX5) (N := 14) hx hb hts in_X5 tyX5 tyX5_ok nmX5 hown hK hP hD hS 0 rfl rfl 4 (by decide) lk_28 (fun _ h9 => h9) rfl hin rfl (by decide +kernel) rfl rfl (Nat.le_of_ble_eq_true rfl) dX5_init_44 (fun H locs hP hD hS => ?_)
  have hP : va_P D vwCl [(h0, .inr (5, [.ref q1, .ref q3, .ref q4, .ref q5, .ref q6, .null, .null, .null, .int 0, .int 0, .int 0, .int 0, .int 0, .int 0])), (q1, .inr (7, [.int 0, .int 0, .ref (u2 0), .ref (u2 1), .ref (u2 2), .ref (u2 3), .ref (u2 4), .ref (u2 5)])), ((u2 0), .inl (kc 1, 30, .inl (fun _ => 0))), ((u2 1), .inl (kc 1, 30, .inl (fun _ => 0))), ((u2 2), .inl (kc 1, 36, .inl (fun _ => 0))), ((u2 3), .inl (kc 1, 54, .inl (fun _ => 0))), ((u2 4), .inl (kc 1, 6, .inl (fun _ => 0))), ((u2 5), .inl (kc 1, 48, .inl (fun _ => 0))), (q3, .inl (kc 1, 8, .inl (fun _ => 0))), (q4, .inl (kc 1, 8, .inl (fun _ => 0))), (q5, .inl (kc 1, 8, .inl (fun _ => 0))), (q6, .inl (kc 1, 10, .inl (fun _ => 0)))] H := hP
  have hD : va_D A [(h0, .inr (5, [.ref q1, .ref q3, .ref q4, .ref q5, .ref q6, .null, .null, .null, .int 0, .int 0, .int 0, .int 0, .int 0, .int 0])), (q1, .inr (7, [.int 0, .int 0, .ref (u2 0), .ref (u2 1), .ref (u2 2), .ref (u2 3), .ref (u2 4), .ref (u2 5)])), ((u2 0), .inl (kc 1, 30, .inl (fun _ => 0))), ((u2 1), .inl (kc 1, 30, .inl (fun _ => 0))), ((u2 2), .inl (kc 1, 36, .inl (fun _ => 0))), ((u2 3), .inl (kc 1, 54, .inl (fun _ => 0))), ((u2 4), .inl (kc 1, 6, .inl (fun _ => 0))), ((u2 5), .inl (kc 1, 48, .inl (fun _ => 0))), (q3, .inl (kc 1, 8, .inl (fun _ => 0))), (q4, .inl (kc 1, 8, .inl (fun _ => 0))), (q5, .inl (kc 1, 8, .inl (fun _ => 0))), (q6, .inl (kc 1, 10, .inl (fun _ => 0)))] := hD
  refine lv_aload_n hx hb dX5_init_47 rfl (lv_at hl 0 rfl) ?_
  refine lv_bipush (v := 10) hx hb dX5_init_48 (by decide) ?_
  refine g_newI hx hb ha_I hK hP hD hS hA 10 (by decide) (by decide) (Nat.le_of_ble_eq_true rfl) (Nat.le_of_ble_eq_true rfl) (Nat.le_of_ble_eq_true rfl) dX5_init_50 (fun q7 H hP hD hS => ?_)
  have hP : va_P D vwCl [(h0, .inr (5, [.ref q1, .ref q3, .ref q4, .ref q5, .ref q6, .null, .null, .null, .int 0, .int 0, .int 0, .int 0, .int 0, .int 0])), (q1, .inr (7, [.int 0, .int 0, .ref (u2 0), .ref (u2 1), .ref (u2 2), .ref (u2 3), .ref (u2 4), .ref (u2 5)])), ((u2 0), .inl (kc 1, 30, .inl (fun _ => 0))), ((u2 1), .inl (kc 1, 30, .inl (fun _ => 0))), ((u2 2), .inl (kc 1, 36, .inl (fun _ => 0))), ((u2 3), .inl (kc 1, 54, .inl (fun _ => 0))), ((u2 4), .inl (kc 1, 6, .inl (fun _ => 0))), ((u2 5), .inl (kc 1, 48, .inl (fun _ => 0))), (q3, .inl (kc 1, 8, .inl (fun _ => 0))), (q4, .inl (kc 1, 8, .inl (fun _ => 0))), (q5, .inl (kc 1, 8, .inl (fun _ => 0))), (q6, .inl (kc 1, 10, .inl (fun _ => 0))), (q7, .inl (kc 1, 10, .inl (fun _ => 0)))] H := hP
  have hD : va_D A [(h0, .inr (5, [.ref q1, .ref q3, .ref q4, .ref q5, .ref q6, .null, .null, .null, .int 0, .int 0, .int 0, .int 0, .int 0, .int 0])), (q1, .inr (7, [.int 0, .int 0, .ref (u2 0), .ref (u2 1), .ref (u2 2), .ref (u2 3), .ref (u2 4), .ref (u2 5)])), ((u2 0), .inl (kc 1, 30, .inl (fun _ => 0))), ((u2 1), .inl (kc 1, 30, .inl (fun _ => 0))), ((u2 2), .inl (kc 1, 36, .inl (fun _ => 0))), ((u2 3), .inl (kc 1, 54, .inl (fun _ => 0))), ((u2 4), .inl (kc 1, 6, .inl (fun _ => 0))), ((u2 5), .inl (kc 1, 48, .inl (fun _ => 0))), (q3, .inl (kc 1, 8, .inl (fun _ => 0))), (q4, .inl (kc 1, 8, .inl (fun _ => 0))), (q5, .inl (kc 1, 8, .inl (fun _ => 0))), (q6, .inl (kc 1, 10, .inl (fun _ => 0))), (q7, .inl (kc 1, 10, .inl (fun _ => 0)))] := hD
  refine va_putF (D := D) (ci := 5) (v := .ref q7) (ty := .array .int) (C := RX5) (T := TX5) (N := 14) hx hb hts in_X5 tyX5 tyX5_ok nmX5 hown hK hP hD hS 0 rfl rfl 5 (by decide) lk_31 (fun _ h9 => h9) rfl hin rfl (by decide +kernel) rfl rfl (Nat.le_of_ble_eq_true rfl) dX5_init_52 (fun H locs hP hD hS => ?_)
  have hP : va_P D vwCl [(h0, .inr (5, [.ref q1, .ref q3, .ref q4, .ref q5, .ref q6, .ref q7, .null, .null, .int 0, .int 0, .int 0, .int 0, .int 0, .int 0])), (q1, .inr (7, [.int 0, .int 0, .ref (u2 0), .ref (u2 1), .ref (u2 2), .ref (u2 3), .ref (u2 4), .ref (u2 5)])), ((u2 0), .inl (kc 1, 30, .inl (fun _ => 0))), ((u2 1), .inl (kc 1, 30, .inl (fun _ => 0))), ((u2 2), .inl (kc 1, 36, .inl (fun _ => 0))), ((u2 3), .inl (kc 1, 54, .inl (fun _ => 0))), ((u2 4), .inl (kc 1, 6, .inl (fun _ => 0))), ((u2 5), .inl (kc 1, 48, .inl (fun _ => 0))), (q3, .inl (kc 1, 8, .inl (fun _ => 0))), (q4, .inl (kc 1, 8, .inl (fun _ => 0))), (q5, .inl (kc 1, 8, .inl (fun _ => 0))), (q6, .inl (kc 1, 10, .inl (fun _ => 0))), (q7, .inl (kc 1, 10, .inl (fun _ => 0)))] H := hP
  have hD : va_D A [(h0, .inr (5, [.ref q1, .ref q3, .ref q4, .ref q5, .ref q6, .ref q7, .null, .null, .int 0, .int 0, .int 0, .int 0, .int 0, .int 0])), (q1, .inr (7, [.int 0, .int 0, .ref (u2 0), .ref (u2 1), .ref (u2 2), .ref (u2 3), .ref (u2 4), .ref (u2 5)])), ((u2 0), .inl (kc 1, 30, .inl (fun _ => 0))), ((u2 1), .inl (kc 1, 30, .inl (fun _ => 0))), ((u2 2), .inl (kc 1, 36, .inl (fun _ => 0))), ((u2 3), .inl (kc 1, 54, .inl (fun _ => 0))), ((u2 4), .inl (kc 1, 6, .inl (fun _ => 0))), ((u2 5), .inl (kc 1, 48, .inl (fun _ => 0))), (q3, .inl (kc 1, 8, .inl (fun _ => 0))), (q4, .inl (kc 1, 8, .inl (fun _ => 0))), (q5, .inl (kc 1, 8, .inl (fun _ => 0))), (q6, .inl (kc 1, 10, .inl (fun _ => 0))), (q7, .inl (kc 1, 10, .inl (fun _ => 0)))] := hD
  refine lv_aload_n hx hb dX5_init_55 rfl (lv_at hl 0 rfl) ?_
  refine lv_bipush (v := 24) hx hb dX5_init_56 (by decide) ?_
  refine g_newI hx hb ha_I hK hP hD hS hA 24 (by decide) (by decide) (Nat.le_of_ble_eq_true rfl) (Nat.le_of_ble_eq_true rfl) (Nat.le_of_ble_eq_true rfl) dX5_init_58 (fun q8 H hP hD hS => ?_)
  have hP : va_P D vwCl [(h0, .inr (5, [.ref q1, .ref q3, .ref q4, .ref q5, .ref q6, .ref q7, .null, .null, .int 0, .int 0, .int 0, .int 0, .int 0, .int 0])), (q1, .inr (7, [.int 0, .int 0, .ref (u2 0), .ref (u2 1), .ref (u2 2), .ref (u2 3), .ref (u2 4), .ref (u2 5)])), ((u2 0), .inl (kc 1, 30, .inl (fun _ => 0))), ((u2 1), .inl (kc 1, 30, .inl (fun _ => 0))), ((u2 2), .inl (kc 1, 36, .inl (fun _ => 0))), ((u2 3), .inl (kc 1, 54, .inl (fun _ => 0))), ((u2 4), .inl (kc 1, 6, .inl (fun _ => 0))), ((u2 5), .inl (kc 1, 48, .inl (fun _ => 0))), (q3, .inl (kc 1, 8, .inl (fun _ => 0))), (q4, .inl (kc 1, 8, .inl (fun _ => 0))), (q5, .inl (kc 1, 8, .inl (fun _ => 0))), (q6, .inl (kc 1, 10, .inl (fun _ => 0))), (q7, .inl (kc 1, 10, .inl (fun _ => 0))), (q8, .inl (kc 1, 24, .inl (fun _ => 0)))] H := hP
  have hD : va_D A [(h0, .inr (5, [.ref q1, .ref q3, .ref q4, .ref q5, .ref q6, .ref q7, .null, .null, .int 0, .int 0, .int 0, .int 0, .int 0, .int 0])), (q1, .inr (7, [.int 0, .int 0, .ref (u2 0), .ref (u2 1), .ref (u2 2), .ref (u2 3), .ref (u2 4), .ref (u2 5)])), ((u2 0), .inl (kc 1, 30, .inl (fun _ => 0))), ((u2 1), .inl (kc 1, 30, .inl (fun _ => 0))), ((u2 2), .inl (kc 1, 36, .inl (fun _ => 0))), ((u2 3), .inl (kc 1, 54, .inl (fun _ => 0))), ((u2 4), .inl (kc 1, 6, .inl (fun _ => 0))), ((u2 5), .inl (kc 1, 48, .inl (fun _ => 0))), (q3, .inl (kc 1, 8, .inl (fun _ => 0))), (q4, .inl (kc 1, 8, .inl (fun _ => 0))), (q5, .inl (kc 1, 8, .inl (fun _ => 0))), (q6, .inl (kc 1, 10, .inl (fun _ => 0))), (q7, .inl (kc 1, 10, .inl (fun _ => 0))), (q8, .inl (kc 1, 24, .inl (fun _ => 0)))] := hD
  refine va_putF (D := D) (ci := 5) (v := .ref q8) (ty := .array .int) (C := RX5) (T := TX5) (N := 14) hx hb hts in_X5 tyX5 tyX5_ok nmX5 hown hK hP hD hS 0 rfl rfl 6 (by decide) lk_34 (fun _ h9 => h9) rfl hin rfl (by decide +kernel) rfl rfl (Nat.le_of_ble_eq_true rfl) dX5_init_60 (fun H locs hP hD hS => ?_)
  have hP : va_P D vwCl [(h0, .inr (5, [.ref q1, .ref q3, .ref q4, .ref q5, .ref q6, .ref q7, .ref q8, .null, .int 0, .int 0, .int 0, .int 0, .int 0, .int 0])), (q1, .inr (7, [.int 0, .int 0, .ref (u2 0), .ref (u2 1), .ref (u2 2), .ref (u2 3), .ref (u2 4), .ref (u2 5)])), ((u2 0), .inl (kc 1, 30, .inl (fun _ => 0))), ((u2 1), .inl (kc 1, 30, .inl (fun _ => 0))), ((u2 2), .inl (kc 1, 36, .inl (fun _ => 0))), ((u2 3), .inl (kc 1, 54, .inl (fun _ => 0))), ((u2 4), .inl (kc 1, 6, .inl (fun _ => 0))), ((u2 5), .inl (kc 1, 48, .inl (fun _ => 0))), (q3, .inl (kc 1, 8, .inl (fun _ => 0))), (q4, .inl (kc 1, 8, .inl (fun _ => 0))), (q5, .inl (kc 1, 8, .inl (fun _ => 0))), (q6, .inl (kc 1, 10, .inl (fun _ => 0))), (q7, .inl (kc 1, 10, .inl (fun _ => 0))), (q8, .inl (kc 1, 24, .inl (fun _ => 0)))] H := hP
  have hD : va_D A [(h0, .inr (5, [.ref q1, .ref q3, .ref q4, .ref q5, .ref q6, .ref q7, .ref q8, .null, .int 0, .int 0, .int 0, .int 0, .int 0, .int 0])), (q1, .inr (7, [.int 0, .int 0, .ref (u2 0), .ref (u2 1), .ref (u2 2), .ref (u2 3), .ref (u2 4), .ref (u2 5)])), ((u2 0), .inl (kc 1, 30, .inl (fun _ => 0))), ((u2 1), .inl (kc 1, 30, .inl (fun _ => 0))), ((u2 2), .inl (kc 1, 36, .inl (fun _ => 0))), ((u2 3), .inl (kc 1, 54, .inl (fun _ => 0))), ((u2 4), .inl (kc 1, 6, .inl (fun _ => 0))), ((u2 5), .inl (kc 1, 48, .inl (fun _ => 0))), (q3, .inl (kc 1, 8, .inl (fun _ => 0))), (q4, .inl (kc 1, 8, .inl (fun _ => 0))), (q5, .inl (kc 1, 8, .inl (fun _ => 0))), (q6, .inl (kc 1, 10, .inl (fun _ => 0))), (q7, .inl (kc 1, 10, .inl (fun _ => 0))), (q8, .inl (kc 1, 24, .inl (fun _ => 0)))] := hD
  refine lv_aload_n hx hb dX5_init_63 rfl (lv_at hl 0 rfl) ?_
  refine lv_bipush (v := 24) hx hb dX5_init_64 (by decide) ?_
  refine g_newI hx hb ha_I hK hP hD hS hA 24 (by decide) (by decide) (Nat.le_of_ble_eq_true rfl) (Nat.le_of_ble_eq_true rfl) (Nat.le_of_ble_eq_true rfl) dX5_init_66 (fun q9 H hP hD hS => ?_)
  have hP : va_P D vwCl [(h0, .inr (5, [.ref q1, .ref q3, .ref q4, .ref q5, .ref q6, .ref q7, .ref q8, .null, .int 0, .int 0, .int 0, .int 0, .int 0, .int 0])), (q1, .inr (7, [.int 0, .int 0, .ref (u2 0), .ref (u2 1), .ref (u2 2), .ref (u2 3), .ref (u2 4), .ref (u2 5)])), ((u2 0), .inl (kc 1, 30, .inl (fun _ => 0))), ((u2 1), .inl (kc 1, 30, .inl (fun _ => 0))), ((u2 2), .inl (kc 1, 36, .inl (fun _ => 0))), ((u2 3), .inl (kc 1, 54, .inl (fun _ => 0))), ((u2 4), .inl (kc 1, 6, .inl (fun _ => 0))), ((u2 5), .inl (kc 1, 48, .inl (fun _ => 0))), (q3, .inl (kc 1, 8, .inl (fun _ => 0))), (q4, .inl (kc 1, 8, .inl (fun _ => 0))), (q5, .inl (kc 1, 8, .inl (fun _ => 0))), (q6, .inl (kc 1, 10, .inl (fun _ => 0))), (q7, .inl (kc 1, 10, .inl (fun _ => 0))), (q8, .inl (kc 1, 24, .inl (fun _ => 0))), (q9, .inl (kc 1, 24, .inl (fun _ => 0)))] H := hP
  have hD : va_D A [(h0, .inr (5, [.ref q1, .ref q3, .ref q4, .ref q5, .ref q6, .ref q7, .ref q8, .null, .int 0, .int 0, .int 0, .int 0, .int 0, .int 0])), (q1, .inr (7, [.int 0, .int 0, .ref (u2 0), .ref (u2 1), .ref (u2 2), .ref (u2 3), .ref (u2 4), .ref (u2 5)])), ((u2 0), .inl (kc 1, 30, .inl (fun _ => 0))), ((u2 1), .inl (kc 1, 30, .inl (fun _ => 0))), ((u2 2), .inl (kc 1, 36, .inl (fun _ => 0))), ((u2 3), .inl (kc 1, 54, .inl (fun _ => 0))), ((u2 4), .inl (kc 1, 6, .inl (fun _ => 0))), ((u2 5), .inl (kc 1, 48, .inl (fun _ => 0))), (q3, .inl (kc 1, 8, .inl (fun _ => 0))), (q4, .inl (kc 1, 8, .inl (fun _ => 0))), (q5, .inl (kc 1, 8, .inl (fun _ => 0))), (q6, .inl (kc 1, 10, .inl (fun _ => 0))), (q7, .inl (kc 1, 10, .inl (fun _ => 0))), (q8, .inl (kc 1, 24, .inl (fun _ => 0))), (q9, .inl (kc 1, 24, .inl (fun _ => 0)))] := hD
  refine va_putF (D := D) (ci := 5) (v := .ref q9) (ty := .array .int) (C := RX5) (T := TX5) (N := 14) hx hb hts in_X5 tyX5 tyX5_ok nmX5 hown hK hP hD hS 0 rfl rfl 7 (by decide) lk_37 (fun _ h9 => h9) rfl hin rfl (by decide +kernel) rfl rfl (Nat.le_of_ble_eq_true rfl) dX5_init_68 (fun H locs hP hD hS => ?_)
  have hP : va_P D vwCl [(h0, .inr (5, [.ref q1, .ref q3, .ref q4, .ref q5, .ref q6, .ref q7, .ref q8, .ref q9, .int 0, .int 0, .int 0, .int 0, .int 0, .int 0])), (q1, .inr (7, [.int 0, .int 0, .ref (u2 0), .ref (u2 1), .ref (u2 2), .ref (u2 3), .ref (u2 4), .ref (u2 5)])), ((u2 0), .inl (kc 1, 30, .inl (fun _ => 0))), ((u2 1), .inl (kc 1, 30, .inl (fun _ => 0))), ((u2 2), .inl (kc 1, 36, .inl (fun _ => 0))), ((u2 3), .inl (kc 1, 54, .inl (fun _ => 0))), ((u2 4), .inl (kc 1, 6, .inl (fun _ => 0))), ((u2 5), .inl (kc 1, 48, .inl (fun _ => 0))), (q3, .inl (kc 1, 8, .inl (fun _ => 0))), (q4, .inl (kc 1, 8, .inl (fun _ => 0))), (q5, .inl (kc 1, 8, .inl (fun _ => 0))), (q6, .inl (kc 1, 10, .inl (fun _ => 0))), (q7, .inl (kc 1, 10, .inl (fun _ => 0))), (q8, .inl (kc 1, 24, .inl (fun _ => 0))), (q9, .inl (kc 1, 24, .inl (fun _ => 0)))] H := hP
  have hD : va_D A [(h0, .inr (5, [.ref q1, .ref q3, .ref q4, .ref q5, .ref q6, .ref q7, .ref q8, .ref q9, .int 0, .int 0, .int 0, .int 0, .int 0, .int 0])), (q1, .inr (7, [.int 0, .int 0, .ref (u2 0), .ref (u2 1), .ref (u2 2), .ref (u2 3), .ref (u2 4), .ref (u2 5)])), ((u2 0), .inl (kc 1, 30, .inl (fun _ => 0))), ((u2 1), .inl (kc 1, 30, .inl (fun _ => 0))), ((u2 2), .inl (kc 1, 36, .inl (fun _ => 0))), ((u2 3), .inl (kc 1, 54, .inl (fun _ => 0))), ((u2 4), .inl (kc 1, 6, .inl (fun _ => 0))), ((u2 5), .inl (kc 1, 48, .inl (fun _ => 0))), (q3, .inl (kc 1, 8, .inl (fun _ => 0))), (q4, .inl (kc 1, 8, .inl (fun _ => 0))), (q5, .inl (kc 1, 8, .inl (fun _ => 0))), (q6, .inl (kc 1, 10, .inl (fun _ => 0))), (q7, .inl (kc 1, 10, .inl (fun _ => 0))), (q8, .inl (kc 1, 24, .inl (fun _ => 0))), (q9, .inl (kc 1, 24, .inl (fun _ => 0)))] := hD
  refine lv_aload_n hx hb dX5_init_71 rfl (lv_at hl 0 rfl) ?_
  refine lv_bipush (v := 8) hx hb dX5_init_72 (by decide) ?_
  refine va_put (D := D) (ci := 5) (v := .int 8) (ty := .int) (C := RX5) (T := TX5) (N := 14) hx hb hts in_X5 tyX5 tyX5_ok nmX5 hown hK hP hD hS 0 rfl rfl 11 (by decide) lk_40 (fun _ h9 => h9) rfl (by decide +kernel) rfl rfl (Nat.le_of_ble_eq_true rfl) dX5_init_74 (fun H locs hP hD hS => ?_)
  have hP : va_P D vwCl [(h0, .inr (5, [.ref q1, .ref q3, .ref q4, .ref q5, .ref q6, .ref q7, .ref q8, .ref q9, .int 0, .int 0, .int 0, .int 8, .int 0, .int 0])), (q1, .inr (7, [.int 0, .int 0, .ref (u2 0), .ref (u2 1), .ref (u2 2), .ref (u2 3), .ref (u2 4), .ref (u2 5)])), ((u2 0), .inl (kc 1, 30, .inl (fun _ => 0))), ((u2 1), .inl (kc 1, 30, .inl (fun _ => 0))), ((u2 2), .inl (kc 1, 36, .inl (fun _ => 0))), ((u2 3), .inl (kc 1, 54, .inl (fun _ => 0))), ((u2 4), .inl (kc 1, 6, .inl (fun _ => 0))), ((u2 5), .inl (kc 1, 48, .inl (fun _ => 0))), (q3, .inl (kc 1, 8, .inl (fun _ => 0))), (q4, .inl (kc 1, 8, .inl (fun _ => 0))), (q5, .inl (kc 1, 8, .inl (fun _ => 0))), (q6, .inl (kc 1, 10, .inl (fun _ => 0))), (q7, .inl (kc 1, 10, .inl (fun _ => 0))), (q8, .inl (kc 1, 24, .inl (fun _ => 0))), (q9, .inl (kc 1, 24, .inl (fun _ => 0)))] H := hP
  have hD : va_D A [(h0, .inr (5, [.ref q1, .ref q3, .ref q4, .ref q5, .ref q6, .ref q7, .ref q8, .ref q9, .int 0, .int 0, .int 0, .int 8, .int 0, .int 0])), (q1, .inr (7, [.int 0, .int 0, .ref (u2 0), .ref (u2 1), .ref (u2 2), .ref (u2 3), .ref (u2 4), .ref (u2 5)])), ((u2 0), .inl (kc 1, 30, .inl (fun _ => 0))), ((u2 1), .inl (kc 1, 30, .inl (fun _ => 0))), ((u2 2), .inl (kc 1, 36, .inl (fun _ => 0))), ((u2 3), .inl (kc 1, 54, .inl (fun _ => 0))), ((u2 4), .inl (kc 1, 6, .inl (fun _ => 0))), ((u2 5), .inl (kc 1, 48, .inl (fun _ => 0))), (q3, .inl (kc 1, 8, .inl (fun _ => 0))), (q4, .inl (kc 1, 8, .inl (fun _ => 0))), (q5, .inl (kc 1, 8, .inl (fun _ => 0))), (q6, .inl (kc 1, 10, .inl (fun _ => 0))), (q7, .inl (kc 1, 10, .inl (fun _ => 0))), (q8, .inl (kc 1, 24, .inl (fun _ => 0))), (q9, .inl (kc 1, 24, .inl (fun _ => 0)))] := hD
  refine lv_aload_n hx hb dX5_init_77 rfl (lv_at hl 0 rfl) ?_
  refine lv_iconst (v := 1) hx hb dX5_init_78 (by decide) ?_
  refine va_put (D := D) (ci := 5) (v := .int 1) (ty := .int) (C := RX5) (T := TX5) (N := 14) hx hb hts in_X5 tyX5 tyX5_ok nmX5 hown hK hP hD hS 0 rfl rfl 13 (by decide) lk_44 (fun _ h9 => h9) rfl (by decide +kernel) rfl rfl (Nat.le_of_ble_eq_true rfl) dX5_init_79 (fun H locs hP hD hS => ?_)
  have hP : va_P D vwCl [(h0, .inr (5, [.ref q1, .ref q3, .ref q4, .ref q5, .ref q6, .ref q7, .ref q8, .ref q9, .int 0, .int 0, .int 0, .int 8, .int 0, .int 1])), (q1, .inr (7, [.int 0, .int 0, .ref (u2 0), .ref (u2 1), .ref (u2 2), .ref (u2 3), .ref (u2 4), .ref (u2 5)])), ((u2 0), .inl (kc 1, 30, .inl (fun _ => 0))), ((u2 1), .inl (kc 1, 30, .inl (fun _ => 0))), ((u2 2), .inl (kc 1, 36, .inl (fun _ => 0))), ((u2 3), .inl (kc 1, 54, .inl (fun _ => 0))), ((u2 4), .inl (kc 1, 6, .inl (fun _ => 0))), ((u2 5), .inl (kc 1, 48, .inl (fun _ => 0))), (q3, .inl (kc 1, 8, .inl (fun _ => 0))), (q4, .inl (kc 1, 8, .inl (fun _ => 0))), (q5, .inl (kc 1, 8, .inl (fun _ => 0))), (q6, .inl (kc 1, 10, .inl (fun _ => 0))), (q7, .inl (kc 1, 10, .inl (fun _ => 0))), (q8, .inl (kc 1, 24, .inl (fun _ => 0))), (q9, .inl (kc 1, 24, .inl (fun _ => 0)))] H := hP
  have hD : va_D A [(h0, .inr (5, [.ref q1, .ref q3, .ref q4, .ref q5, .ref q6, .ref q7, .ref q8, .ref q9, .int 0, .int 0, .int 0, .int 8, .int 0, .int 1])), (q1, .inr (7, [.int 0, .int 0, .ref (u2 0), .ref (u2 1), .ref (u2 2), .ref (u2 3), .ref (u2 4), .ref (u2 5)])), ((u2 0), .inl (kc 1, 30, .inl (fun _ => 0))), ((u2 1), .inl (kc 1, 30, .inl (fun _ => 0))), ((u2 2), .inl (kc 1, 36, .inl (fun _ => 0))), ((u2 3), .inl (kc 1, 54, .inl (fun _ => 0))), ((u2 4), .inl (kc 1, 6, .inl (fun _ => 0))), ((u2 5), .inl (kc 1, 48, .inl (fun _ => 0))), (q3, .inl (kc 1, 8, .inl (fun _ => 0))), (q4, .inl (kc 1, 8, .inl (fun _ => 0))), (q5, .inl (kc 1, 8, .inl (fun _ => 0))), (q6, .inl (kc 1, 10, .inl (fun _ => 0))), (q7, .inl (kc 1, 10, .inl (fun _ => 0))), (q8, .inl (kc 1, 24, .inl (fun _ => 0))), (q9, .inl (kc 1, 24, .inl (fun _ => 0)))] := hD
  have hP9 : va_P D vwCl (n_X5 kc h0 (fun k => ([q1, (u2 0), (u2 1), (u2 2), (u2 3), (u2 4), (u2 5), q3, q4, q5, q6, q7, q8, q9] : List Nat).getD k 0)) H := hP
  have hD9 : va_D A (n_X5 kc h0 (fun k => ([q1, (u2 0), (u2 1), (u2 2), (u2 3), (u2 4), (u2 5), q3, q4, q5, q6, q7, q8, q9] : List Nat).getD k 0)) := hD
  exact W.vret hx hb hr (fun t ht hW => ⟨⟨(fun k => ([q1, (u2 0), (u2 1), (u2 2), (u2 3), (u2 4), (u2 5), q3, q4, q5, q6, q7, q8, q9] : List Nat).getD k 0), rfl, trivial, by rw [ht]; exact hP9, va_K.moved hW.alike hK, by rw [hAe]; exact hD9⟩, by rw [hAe]; exact hS.F ht⟩) (by rw [hAe]; exact hS.2.2) dX5_init_82 hlocks
abbrev n_X6 (kc : Nat → ClassId) (h0 : Nat) (u : Nat → Nat) : va_W := [(h0, .inr (6, [.ref (u 0), .ref (u 4), .ref (u 5), .ref (u 6), .ref (u 7), .ref (u 8), .int 0, .int (-2), .int 0, .int 0, .ref (u 9), .ref (u 10), .ref (u 11), .int 0, .long 0])), ((u 0), .inr (1, [.ref (u 1), .ref (u 2), .ref (u 3), .int 0])), ((u 1), .inl (kc 1, 16, .inl (fun _ => 0))), ((u 2), .inl (kc 1, 16, .inl (fun _ => 0))), ((u 3), .inl (kc 1, 16, .inl (fun _ => 0))), ((u 4), .inl (kc 1, 10, .inl (fun _ => 0))), ((u 5), .inl (kc 1, 10, .inl (fun _ => 0))), ((u 6), .inl (kc 1, 10, .inl (fun _ => 0))), ((u 7), .inl (kc 1, 4, .inl (fun _ => 0))), ((u 8), .inl (kc 1, 24, .inl (fun _ => 0))), ((u 9), .inl (kc 1, 10, .inl (fun _ => 0))), ((u 10), .inl (kc 1, 10, .inl (fun _ => 0))), ((u 11), .inl (kc 1, 10, .inl (fun _ => 0)))]
set_option maxHeartbeats 4000000 in
set_option maxRecDepth 100000 in
theorem k_X6 (l : Launch) (D : va_G) (kc : Nat → ClassId) (h0 : Nat) : MC l yX6_init wsX6_init ({ frames := 2, cells := 12, slots := 140, locals := 32 }) D kc h0 [(h0, .inr (6, [.null, .null, .null, .null, .null, .null, .int 0, .int 0, .int 0, .int 0, .null, .null, .null, .int 0, .long 0]))] (n_X6 kc h0) 12 140 := by
  intro sz
  refine Met.ofW (cc := cX6_init) (maxL := 1) (ret := none) (by decide) rfl ?_
  intro p e s m args below meth c s₁ B hml hv
  obtain ⟨rfl, ⟨hsz, hP, hK, hD0, hN⟩, hC⟩ := hv
  have hr := B.returns
  have hlocks := B.notSynchronized
  have hx := B.exec
  have hb := B.bytes
  have hin : meth.name = "<init>" := (name_of_methodNamed B.named B.method).1
  have hts := atoms_spec (ws := wsX6_init) B.pre
  have hown : s.vm.findClass RX6 = some m.cls := findClass_of_methodNamed B.named
  subst hsz
  obtain ⟨A, hAe⟩ : ∃ A, va_A [(h0, .inr (6, [.null, .null, .null, .null, .null, .null, .int 0, .int 0, .int 0, .int 0, .null, .null, .null, .int 0, .long 0]))] s.heap.size = A := ⟨_, rfl⟩
  have hD := hD0.self (sz := s.heap.size)
  have hA : ∀ q : Nat, s.heap.size ≤ q → A q := fun q h => by rw [← hAe]; exact Or.inr h
  rw [hAe] at hD
  have hS : va_S A s.heap s.heap [] := va_S.rf
  have hl := lv_entry [.ref h0] (n := 1) (Nat.le_of_ble_eq_true rfl)
  rw [lg_entry_eq]
  generalize (lg_sl [.ref h0] ++ List.replicate (1 - (lg_sl [.ref h0]).length) Slot.unset).toArray = ls at hl ⊢
  have hl : lv_has ls 1 [(0, .ref h0)] := hl
  have in_X1 : ∀ w ∈ u_ws RX1 TX1 4, w ∈ wsX6_init := by decide +kernel
  have in_X6 : ∀ w ∈ u_ws RX6 TX6 15, w ∈ wsX6_init := by decide +kernel
  have lk_12 := hts (.fieldLink RX6 12 "BalloonMail$State" "journal" "LBalloonMail$Journal;") (by decide +kernel)
  have ha_I := hts (.arrayClass .int) (by decide +kernel)
  have lk_18 := hts (.fieldLink RX6 18 "BalloonMail$State" "balloonState" "[I") (by decide +kernel)
  have lk_22 := hts (.fieldLink RX6 22 "BalloonMail$State" "balloonRegion" "[I") (by decide +kernel)
  have lk_25 := hts (.fieldLink RX6 25 "BalloonMail$State" "cargo" "[I") (by decide +kernel)
  have lk_28 := hts (.fieldLink RX6 28 "BalloonMail$State" "letters" "[I") (by decide +kernel)
  have lk_31 := hts (.fieldLink RX6 31 "BalloonMail$State" "answeredOn" "[I") (by decide +kernel)
  have lk_34 := hts (.fieldLink RX6 34 "BalloonMail$State" "wind" "I") (by decide +kernel)
  have lk_38 := hts (.fieldLink RX6 38 "BalloonMail$State" "homing" "[I") (by decide +kernel)
  have lk_41 := hts (.fieldLink RX6 41 "BalloonMail$State" "due" "[I") (by decide +kernel)
  have lk_44 := hts (.fieldLink RX6 44 "BalloonMail$State" "launched" "[I") (by decide +kernel)
  refine lv_aload_n hx hb dX6_init_0 rfl (lv_at hl 0 rfl) ?_
  refine W.objInit hx hb hown (hts (.methodLink RX6 3 objectInit) (by decide +kernel)) (hts (.instanceMethod objectInit) (by decide +kernel)) (hts (.code objectInit ⟨#[0xb1]⟩ 1 none) (by decide +kernel)) rfl (by rw [hml]; exact hl.1) rfl dX6_init_1 (Nat.le_of_ble_eq_true rfl) (Nat.le_of_ble_eq_true rfl) ?_
  refine W.eq (g2 := F0 m 4 ls []) rfl ?_
  refine lv_aload_n hx hb dX6_init_4 rfl (lv_at hl 0 rfl) ?_
  refine va_new (ci := 1) (fs := [.null, .null, .null, .int 0]) (C := RX1) (T := TX1) (N := 4) hx hb hts in_X1 tyX1 tyX1_ok hown (hts (.classLink RX6 9 RX1) (by decide +kernel)) (hts (.instantiable RX1 4) (by decide +kernel)) (hts (.initialized RX1) (by decide +kernel)) hK hP hD hS hA rfl (fun j hj => by rcases (show j = 0 ∨ j = 1 ∨ j = 2 ∨ j = 3 by omega) with rfl | rfl | rfl | rfl <;> rfl) (Nat.le_of_ble_eq_true rfl) (Nat.le_of_ble_eq_true rfl) dX6_init_5 (fun q1 H hP hD hS => ?_)
  have hP : va_P D vwCl [(h0, .inr (6, [.null, .null, .null, .null, .null, .null, .int 0, .int 0, .int 0, .int 0, .null, .null, .null, .int 0, .long 0])), (q1, .inr (1, [.null, .null, .null, .int 0]))] H := hP
  have hD : va_D A [(h0, .inr (6, [.null, .null, .null, .null, .null, .null, .int 0, .int 0, .int 0, .int 0, .null, .null, .null, .int 0, .long 0])), (q1, .inr (1, [.null, .null, .null, .int 0]))] := hD
  refine lv_dup hx hb dX6_init_8 rfl ?_
  refine g_IN (X := [(h0, .inr (6, [.null, .null, .null, .null, .null, .null, .int 0, .int 0, .int 0, .int 0, .null, .null, .null, .int 0, .long 0])), (q1, .inr (1, [.null, .null, .null, .int 0]))]) (pl := []) (rest := [.ref q1, .ref h0]) ⟨hx, hb, hml, hown, hts⟩ hN hC hK (by simpa using hP) (by simpa using hD) hS hA (k_X1 l D kc q1) ⟨va_cnB 0 hts gX6_init_X1_init_n11 rfl rfl rfl hC.2.2.2.2.2.2.2.1 (hts (.initialized RX1) (by decide +kernel)) (by decide +kernel) ⟨Nat.le_of_ble_eq_true rfl, Nat.le_of_ble_eq_true rfl⟩, rfl, hts (.instanceMethod yX1_init) (by decide +kernel)⟩ [1] [0] (by exact ⟨rfl, rfl, by decide⟩) hl.1 rfl (Nat.le_of_ble_eq_true rfl) dX6_init_9 ⟨Nat.le_of_ble_eq_true rfl, Nat.le_of_ble_eq_true rfl⟩ (fun u2 H locs hP hD hS => ?_)
  rw [List.append_nil] at hP hD
  have hP : va_P D vwCl [(h0, .inr (6, [.null, .null, .null, .null, .null, .null, .int 0, .int 0, .int 0, .int 0, .null, .null, .null, .int 0, .long 0])), (q1, .inr (1, [.ref (u2 0), .ref (u2 1), .ref (u2 2), .int 0])), ((u2 0), .inl (kc 1, 16, .inl (fun _ => 0))), ((u2 1), .inl (kc 1, 16, .inl (fun _ => 0))), ((u2 2), .inl (kc 1, 16, .inl (fun _ => 0)))] H := hP
  have hD : va_D A [(h0, .inr (6, [.null, .null, .null, .null, .null, .null, .int 0, .int 0, .int 0, .int 0, .null, .null, .null, .int 0, .long 0])), (q1, .inr (1, [.ref (u2 0), .ref (u2 1), .ref (u2 2), .int 0])), ((u2 0), .inl (kc 1, 16, .inl (fun _ => 0))), ((u2 1), .inl (kc 1, 16, .inl (fun _ => 0))), ((u2 2), .inl (kc 1, 16, .inl (fun _ => 0)))] := hD
  refine va_putF (D := D) (ci := 6) (v := .ref q1) (ty := .object "BalloonMail$Journal") (C := RX6) (T := TX6) (N := 15) hx hb hts in_X6 tyX6 tyX6_ok nmX6 hown hK hP hD hS 0 rfl rfl 0 (by decide) lk_12 (fun _ h9 => h9) rfl hin rfl (by decide +kernel) rfl rfl (Nat.le_of_ble_eq_true rfl) dX6_init_12 (fun H locs hP hD hS => ?_)
  have hP : va_P D vwCl [(h0, .inr (6, [.ref q1, .null, .null, .null, .null, .null, .int 0, .int 0, .int 0, .int 0, .null, .null, .null, .int 0, .long 0])), (q1, .inr (1, [.ref (u2 0), .ref (u2 1), .ref (u2 2), .int 0])), ((u2 0), .inl (kc 1, 16, .inl (fun _ => 0))), ((u2 1), .inl (kc 1, 16, .inl (fun _ => 0))), ((u2 2), .inl (kc 1, 16, .inl (fun _ => 0)))] H := hP
  have hD : va_D A [(h0, .inr (6, [.ref q1, .null, .null, .null, .null, .null, .int 0, .int 0, .int 0, .int 0, .null, .null, .null, .int 0, .long 0])), (q1, .inr (1, [.ref (u2 0), .ref (u2 1), .ref (u2 2), .int 0])), ((u2 0), .inl (kc 1, 16, .inl (fun _ => 0))), ((u2 1), .inl (kc 1, 16, .inl (fun _ => 0))), ((u2 2), .inl (kc 1, 16, .inl (fun _ => 0)))] := hD
  refine lv_aload_n hx hb dX6_init_15 rfl (lv_at hl 0 rfl) ?_
  refine lv_bipush (v := 10) hx hb dX6_init_16 (by decide) ?_
  refine g_newI hx hb ha_I hK hP hD hS hA 10 (by decide) (by decide) (Nat.le_of_ble_eq_true rfl) (Nat.le_of_ble_eq_true rfl) (Nat.le_of_ble_eq_true rfl) dX6_init_18 (fun q3 H hP hD hS => ?_)
  have hP : va_P D vwCl [(h0, .inr (6, [.ref q1, .null, .null, .null, .null, .null, .int 0, .int 0, .int 0, .int 0, .null, .null, .null, .int 0, .long 0])), (q1, .inr (1, [.ref (u2 0), .ref (u2 1), .ref (u2 2), .int 0])), ((u2 0), .inl (kc 1, 16, .inl (fun _ => 0))), ((u2 1), .inl (kc 1, 16, .inl (fun _ => 0))), ((u2 2), .inl (kc 1, 16, .inl (fun _ => 0))), (q3, .inl (kc 1, 10, .inl (fun _ => 0)))] H := hP
  have hD : va_D A [(h0, .inr (6, [.ref q1, .null, .null, .null, .null, .null, .int 0, .int 0, .int 0, .int 0, .null, .null, .null, .int 0, .long 0])), (q1, .inr (1, [.ref (u2 0), .ref (u2 1), .ref (u2 2), .int 0])), ((u2 0), .inl (kc 1, 16, .inl (fun _ => 0))), ((u2 1), .inl (kc 1, 16, .inl (fun _ => 0))), ((u2 2), .inl (kc 1, 16, .inl (fun _ => 0))), (q3, .inl (kc 1, 10, .inl (fun _ => 0)))] := hD
  refine va_putF (D := D) (ci := 6) (v := .ref q3) (ty := .array .int) (C := RX6) (T := TX6) (N := 15) hx hb hts in_X6 tyX6 tyX6_ok nmX6 hown hK hP hD hS 0 rfl rfl 1 (by decide) lk_18 (fun _ h9 => h9) rfl hin rfl (by decide +kernel) rfl rfl (Nat.le_of_ble_eq_true rfl) dX6_init_20 (fun H locs hP hD hS => ?_)
  have hP : va_P D vwCl [(h0, .inr (6, [.ref q1, .ref q3, .null, .null, .null, .null, .int 0, .int 0, .int 0, .int 0, .null, .null, .null, .int 0, .long 0])), (q1, .inr (1, [.ref (u2 0), .ref (u2 1), .ref (u2 2), .int 0])), ((u2 0), .inl (kc 1, 16, .inl (fun _ => 0))), ((u2 1), .inl (kc 1, 16, .inl (fun _ => 0))), ((u2 2), .inl (kc 1, 16, .inl (fun _ => 0))), (q3, .inl (kc 1, 10, .inl (fun _ => 0)))] H := hP
  have hD : va_D A [(h0, .inr (6, [.ref q1, .ref q3, .null, .null, .null, .null, .int 0, .int 0, .int 0, .int 0, .null, .null, .null, .int 0, .long 0])), (q1, .inr (1, [.ref (u2 0), .ref (u2 1), .ref (u2 2), .int 0])), ((u2 0), .inl (kc 1, 16, .inl (fun _ => 0))), ((u2 1), .inl (kc 1, 16, .inl (fun _ => 0))), ((u2 2), .inl (kc 1, 16, .inl (fun _ => 0))), (q3, .inl (kc 1, 10, .inl (fun _ => 0)))] := hD
  refine lv_aload_n hx hb dX6_init_23 rfl (lv_at hl 0 rfl) ?_
  refine lv_bipush (v := 10) hx hb dX6_init_24 (by decide) ?_
  refine g_newI hx hb ha_I hK hP hD hS hA 10 (by decide) (by decide) (Nat.le_of_ble_eq_true rfl) (Nat.le_of_ble_eq_true rfl) (Nat.le_of_ble_eq_true rfl) dX6_init_26 (fun q4 H hP hD hS => ?_)
  have hP : va_P D vwCl [(h0, .inr (6, [.ref q1, .ref q3, .null, .null, .null, .null, .int 0, .int 0, .int 0, .int 0, .null, .null, .null, .int 0, .long 0])), (q1, .inr (1, [.ref (u2 0), .ref (u2 1), .ref (u2 2), .int 0])), ((u2 0), .inl (kc 1, 16, .inl (fun _ => 0))), ((u2 1), .inl (kc 1, 16, .inl (fun _ => 0))), ((u2 2), .inl (kc 1, 16, .inl (fun _ => 0))), (q3, .inl (kc 1, 10, .inl (fun _ => 0))), (q4, .inl (kc 1, 10, .inl (fun _ => 0)))] H := hP
  have hD : va_D A [(h0, .inr (6, [.ref q1, .ref q3, .null, .null, .null, .null, .int 0, .int 0, .int 0, .int 0, .null, .null, .null, .int 0, .long 0])), (q1, .inr (1, [.ref (u2 0), .ref (u2 1), .ref (u2 2), .int 0])), ((u2 0), .inl (kc 1, 16, .inl (fun _ => 0))), ((u2 1), .inl (kc 1, 16, .inl (fun _ => 0))), ((u2 2), .inl (kc 1, 16, .inl (fun _ => 0))), (q3, .inl (kc 1, 10, .inl (fun _ => 0))), (q4, .inl (kc 1, 10, .inl (fun _ => 0)))] := hD
  refine va_putF (D := D) (ci := 6) (v := .ref q4) (ty := .array .int) (C := RX6) (T := TX6) (N := 15) hx hb hts in_X6 tyX6 tyX6_ok nmX6 hown hK hP hD hS 0 rfl rfl 2 (by decide) lk_22 (fun _ h9 => h9) rfl hin rfl (by decide +kernel) rfl rfl (Nat.le_of_ble_eq_true rfl) dX6_init_28 (fun H locs hP hD hS => ?_)
  have hP : va_P D vwCl [(h0, .inr (6, [.ref q1, .ref q3, .ref q4, .null, .null, .null, .int 0, .int 0, .int 0, .int 0, .null, .null, .null, .int 0, .long 0])), (q1, .inr (1, [.ref (u2 0), .ref (u2 1), .ref (u2 2), .int 0])), ((u2 0), .inl (kc 1, 16, .inl (fun _ => 0))), ((u2 1), .inl (kc 1, 16, .inl (fun _ => 0))), ((u2 2), .inl (kc 1, 16, .inl (fun _ => 0))), (q3, .inl (kc 1, 10, .inl (fun _ => 0))), (q4, .inl (kc 1, 10, .inl (fun _ => 0)))] H := hP
  have hD : va_D A [(h0, .inr (6, [.ref q1, .ref q3, .ref q4, .null, .null, .null, .int 0, .int 0, .int 0, .int 0, .null, .null, .null, .int 0, .long 0])), (q1, .inr (1, [.ref (u2 0), .ref (u2 1), .ref (u2 2), .int 0])), ((u2 0), .inl (kc 1, 16, .inl (fun _ => 0))), ((u2 1), .inl (kc 1, 16, .inl (fun _ => 0))), ((u2 2), .inl (kc 1, 16, .inl (fun _ => 0))), (q3, .inl (kc 1, 10, .inl (fun _ => 0))), (q4, .inl (kc 1, 10, .inl (fun _ => 0)))] := hD
  refine lv_aload_n hx hb dX6_init_31 rfl (lv_at hl 0 rfl) ?_
  refine lv_bipush (v := 10) hx hb dX6_init_32 (by decide) ?_
  refine g_newI hx hb ha_I hK hP hD hS hA 10 (by decide) (by decide) (Nat.le_of_ble_eq_true rfl) (Nat.le_of_ble_eq_true rfl) (Nat.le_of_ble_eq_true rfl) dX6_init_34 (fun q5 H hP hD hS => ?_)
  have hP : va_P D vwCl [(h0, .inr (6, [.ref q1, .ref q3, .ref q4, .null, .null, .null, .int 0, .int 0, .int 0, .int 0, .null, .null, .null, .int 0, .long 0])), (q1, .inr (1, [.ref (u2 0), .ref (u2 1), .ref (u2 2), .int 0])), ((u2 0), .inl (kc 1, 16, .inl (fun _ => 0))), ((u2 1), .inl (kc 1, 16, .inl (fun _ => 0))), ((u2 2), .inl (kc 1, 16, .inl (fun _ => 0))), (q3, .inl (kc 1, 10, .inl (fun _ => 0))), (q4, .inl (kc 1, 10, .inl (fun _ => 0))), (q5, .inl (kc 1, 10, .inl (fun _ => 0)))] H := hP
  have hD : va_D A [(h0, .inr (6, [.ref q1, .ref q3, .ref q4, .null, .null, .null, .int 0, .int 0, .int 0, .int 0, .null, .null, .null, .int 0, .long 0])), (q1, .inr (1, [.ref (u2 0), .ref (u2 1), .ref (u2 2), .int 0])), ((u2 0), .inl (kc 1, 16, .inl (fun _ => 0))), ((u2 1), .inl (kc 1, 16, .inl (fun _ => 0))), ((u2 2), .inl (kc 1, 16, .inl (fun _ => 0))), (q3, .inl (kc 1, 10, .inl (fun _ => 0))), (q4, .inl (kc 1, 10, .inl (fun _ => 0))), (q5, .inl (kc 1, 10, .inl (fun _ => 0)))] := hD
  refine va_putF (D := D) (ci := 6) (v := .ref q5) (ty := .array .int) (C := RX6) (T := TX6) (N := 15) hx hb hts in_X6 tyX6 tyX6_ok nmX6 hown hK hP hD hS 0 rfl rfl 3 (by decide) lk_25 (fun _ h9 => h9) rfl hin rfl (by decide +kernel) rfl rfl (Nat.le_of_ble_eq_true rfl) dX6_init_36 (fun H locs hP hD hS => ?_)
  have hP : va_P D vwCl [(h0, .inr (6, [.ref q1, .ref q3, .ref q4, .ref q5, .null, .null, .int 0, .int 0, .int 0, .int 0, .null, .null, .null, .int 0, .long 0])), (q1, .inr (1, [.ref (u2 0), .ref (u2 1), .ref (u2 2), .int 0])), ((u2 0), .inl (kc 1, 16, .inl (fun _ => 0))), ((u2 1), .inl (kc 1, 16, .inl (fun _ => 0))), ((u2 2), .inl (kc 1, 16, .inl (fun _ => 0))), (q3, .inl (kc 1, 10, .inl (fun _ => 0))), (q4, .inl (kc 1, 10, .inl (fun _ => 0))), (q5, .inl (kc 1, 10, .inl (fun _ => 0)))] H := hP
  have hD : va_D A [(h0, .inr (6, [.ref q1, .ref q3, .ref q4, .ref q5, .null, .null, .int 0, .int 0, .int 0, .int 0, .null, .null, .null, .int 0, .long 0])), (q1, .inr (1, [.ref (u2 0), .ref (u2 1), .ref (u2 2), .int 0])), ((u2 0), .inl (kc 1, 16, .inl (fun _ => 0))), ((u2 1), .inl (kc 1, 16, .inl (fun _ => 0))), ((u2 2), .inl (kc 1, 16, .inl (fun _ => 0))), (q3, .inl (kc 1, 10, .inl (fun _ => 0))), (q4, .inl (kc 1, 10, .inl (fun _ => 0))), (q5, .inl (kc 1, 10, .inl (fun _ => 0)))] := hD
  refine lv_aload_n hx hb dX6_init_39 rfl (lv_at hl 0 rfl) ?_
  refine lv_iconst (v := 4) hx hb dX6_init_40 (by decide) ?_
  refine g_newI hx hb ha_I hK hP hD hS hA 4 (by decide) (by decide) (Nat.le_of_ble_eq_true rfl) (Nat.le_of_ble_eq_true rfl) (Nat.le_of_ble_eq_true rfl) dX6_init_41 (fun q6 H hP hD hS => ?_)
  have hP : va_P D vwCl [(h0, .inr (6, [.ref q1, .ref q3, .ref q4, .ref q5, .null, .null, .int 0, .int 0, .int 0, .int 0, .null, .null, .null, .int 0, .long 0])), (q1, .inr (1, [.ref (u2 0), .ref (u2 1), .ref (u2 2), .int 0])), ((u2 0), .inl (kc 1, 16, .inl (fun _ => 0))), ((u2 1), .inl (kc 1, 16, .inl (fun _ => 0))), ((u2 2), .inl (kc 1, 16, .inl (fun _ => 0))), (q3, .inl (kc 1, 10, .inl (fun _ => 0))), (q4, .inl (kc 1, 10, .inl (fun _ => 0))), (q5, .inl (kc 1, 10, .inl (fun _ => 0))), (q6, .inl (kc 1, 4, .inl (fun _ => 0)))] H := hP
  have hD : va_D A [(h0, .inr (6, [.ref q1, .ref q3, .ref q4, .ref q5, .null, .null, .int 0, .int 0, .int 0, .int 0, .null, .null, .null, .int 0, .long 0])), (q1, .inr (1, [.ref (u2 0), .ref (u2 1), .ref (u2 2), .int 0])), ((u2 0), .inl (kc 1, 16, .inl (fun _ => 0))), ((u2 1), .inl (kc 1, 16, .inl (fun _ => 0))), ((u2 2), .inl (kc 1, 16, .inl (fun _ => 0))), (q3, .inl (kc 1, 10, .inl (fun _ => 0))), (q4, .inl (kc 1, 10, .inl (fun _ => 0))), (q5, .inl (kc 1, 10, .inl (fun _ => 0))), (q6, .inl (kc 1, 4, .inl (fun _ => 0)))] := hD
  refine va_putF (D := D) (ci := 6) (v := .ref q6) (ty := .array .int) (C := RX6) (T := TX6) (N := 15) hx hb hts in_X6 tyX6 tyX6_ok nmX6 hown hK hP hD hS 0 rfl rfl 4 (by decide) lk_28 (fun _ h9 => h9) rfl hin rfl (by decide +kernel) rfl rfl (Nat.le_of_ble_eq_true rfl) dX6_init_43 (fun H locs hP hD hS => ?_)
  have hP : va_P D vwCl [(h0, .inr (6, [.ref q1, .ref q3, .ref q4, .ref q5, .ref q6, .null, .int 0, .int 0, .int 0, .int 0, .null, .null, .null, .int 0, .long 0])), (q1, .inr (1, [.ref (u2 0), .ref (u2 1), .ref (u2 2), .int 0])), ((u2 0), .inl (kc 1, 16, .inl (fun _ => 0))), ((u2 1), .inl (kc 1, 16, .inl (fun _ => 0))), ((u2 2), .inl (kc 1, 16, .inl (fun _ => 0))), (q3, .inl (kc 1, 10, .inl (fun _ => 0))), (q4, .inl (kc 1, 10, .inl (fun _ => 0))), (q5, .inl (kc 1, 10, .inl (fun _ => 0))), (q6, .inl (kc 1, 4, .inl (fun _ => 0)))] H := hP
  have hD : va_D A [(h0, .inr (6, [.ref q1, .ref q3, .ref q4, .ref q5, .ref q6, .null, .int 0, .int 0, .int 0, .int 0, .null, .null, .null, .int 0, .long 0])), (q1, .inr (1, [.ref (u2 0), .ref (u2 1), .ref (u2 2), .int 0])), ((u2 0), .inl (kc 1, 16, .inl (fun _ => 0))), ((u2 1), .inl (kc 1, 16, .inl (fun _ => 0))), ((u2 2), .inl (kc 1, 16, .inl (fun _ => 0))), (q3, .inl (kc 1, 10, .inl (fun _ => 0))), (q4, .inl (kc 1, 10, .inl (fun _ => 0))), (q5, .inl (kc 1, 10, .inl (fun _ => 0))), (q6, .inl (kc 1, 4, .inl (fun _ => 0)))] := hD
  refine lv_aload_n hx hb dX6_init_46 rfl (lv_at hl 0 rfl) ?_
  refine lv_bipush (v := 24) hx hb dX6_init_47 (by decide) ?_
  refine g_newI hx hb ha_I hK hP hD hS hA 24 (by decide) (by decide) (Nat.le_of_ble_eq_true rfl) (Nat.le_of_ble_eq_true rfl) (Nat.le_of_ble_eq_true rfl) dX6_init_49 (fun q7 H hP hD hS => ?_)
  have hP : va_P D vwCl [(h0, .inr (6, [.ref q1, .ref q3, .ref q4, .ref q5, .ref q6, .null, .int 0, .int 0, .int 0, .int 0, .null, .null, .null, .int 0, .long 0])), (q1, .inr (1, [.ref (u2 0), .ref (u2 1), .ref (u2 2), .int 0])), ((u2 0), .inl (kc 1, 16, .inl (fun _ => 0))), ((u2 1), .inl (kc 1, 16, .inl (fun _ => 0))), ((u2 2), .inl (kc 1, 16, .inl (fun _ => 0))), (q3, .inl (kc 1, 10, .inl (fun _ => 0))), (q4, .inl (kc 1, 10, .inl (fun _ => 0))), (q5, .inl (kc 1, 10, .inl (fun _ => 0))), (q6, .inl (kc 1, 4, .inl (fun _ => 0))), (q7, .inl (kc 1, 24, .inl (fun _ => 0)))] H := hP
  have hD : va_D A [(h0, .inr (6, [.ref q1, .ref q3, .ref q4, .ref q5, .ref q6, .null, .int 0, .int 0, .int 0, .int 0, .null, .null, .null, .int 0, .long 0])), (q1, .inr (1, [.ref (u2 0), .ref (u2 1), .ref (u2 2), .int 0])), ((u2 0), .inl (kc 1, 16, .inl (fun _ => 0))), ((u2 1), .inl (kc 1, 16, .inl (fun _ => 0))), ((u2 2), .inl (kc 1, 16, .inl (fun _ => 0))), (q3, .inl (kc 1, 10, .inl (fun _ => 0))), (q4, .inl (kc 1, 10, .inl (fun _ => 0))), (q5, .inl (kc 1, 10, .inl (fun _ => 0))), (q6, .inl (kc 1, 4, .inl (fun _ => 0))), (q7, .inl (kc 1, 24, .inl (fun _ => 0)))] := hD
  refine va_putF (D := D) (ci := 6) (v := .ref q7) (ty := .array .int) (C := RX6) (T := TX6) (N := 15) hx hb hts in_X6 tyX6 tyX6_ok nmX6 hown hK hP hD hS 0 rfl rfl 5 (by decide) lk_31 (fun _ h9 => h9) rfl hin rfl (by decide +kernel) rfl rfl (Nat.le_of_ble_eq_true rfl) dX6_init_51 (fun H locs hP hD hS => ?_)
  have hP : va_P D vwCl [(h0, .inr (6, [.ref q1, .ref q3, .ref q4, .ref q5, .ref q6, .ref q7, .int 0, .int 0, .int 0, .int 0, .null, .null, .null, .int 0, .long 0])), (q1, .inr (1, [.ref (u2 0), .ref (u2 1), .ref (u2 2), .int 0])), ((u2 0), .inl (kc 1, 16, .inl (fun _ => 0))), ((u2 1), .inl (kc 1, 16, .inl (fun _ => 0))), ((u2 2), .inl (kc 1, 16, .inl (fun _ => 0))), (q3, .inl (kc 1, 10, .inl (fun _ => 0))), (q4, .inl (kc 1, 10, .inl (fun _ => 0))), (q5, .inl (kc 1, 10, .inl (fun _ => 0))), (q6, .inl (kc 1, 4, .inl (fun _ => 0))), (q7, .inl (kc 1, 24, .inl (fun _ => 0)))] H := hP
  have hD : va_D A [(h0, .inr (6, [.ref q1, .ref q3, .ref q4, .ref q5, .ref q6, .ref q7, .int 0, .int 0, .int 0, .int 0, .null, .null, .null, .int 0, .long 0])), (q1, .inr (1, [.ref (u2 0), .ref (u2 1), .ref (u2 2), .int 0])), ((u2 0), .inl (kc 1, 16, .inl (fun _ => 0))), ((u2 1), .inl (kc 1, 16, .inl (fun _ => 0))), ((u2 2), .inl (kc 1, 16, .inl (fun _ => 0))), (q3, .inl (kc 1, 10, .inl (fun _ => 0))), (q4, .inl (kc 1, 10, .inl (fun _ => 0))), (q5, .inl (kc 1, 10, .inl (fun _ => 0))), (q6, .inl (kc 1, 4, .inl (fun _ => 0))), (q7, .inl (kc 1, 24, .inl (fun _ => 0)))] := hD
  refine lv_aload_n hx hb dX6_init_54 rfl (lv_at hl 0 rfl) ?_
  refine lv_bipush (v := (-2)) hx hb dX6_init_55 (by decide) ?_
  refine va_put (D := D) (ci := 6) (v := .int (-2)) (ty := .int) (C := RX6) (T := TX6) (N := 15) hx hb hts in_X6 tyX6 tyX6_ok nmX6 hown hK hP hD hS 0 rfl rfl 7 (by decide) lk_34 (fun _ h9 => h9) rfl (by decide +kernel) rfl rfl (Nat.le_of_ble_eq_true rfl) dX6_init_57 (fun H locs hP hD hS => ?_)
  have hP : va_P D vwCl [(h0, .inr (6, [.ref q1, .ref q3, .ref q4, .ref q5, .ref q6, .ref q7, .int 0, .int (-2), .int 0, .int 0, .null, .null, .null, .int 0, .long 0])), (q1, .inr (1, [.ref (u2 0), .ref (u2 1), .ref (u2 2), .int 0])), ((u2 0), .inl (kc 1, 16, .inl (fun _ => 0))), ((u2 1), .inl (kc 1, 16, .inl (fun _ => 0))), ((u2 2), .inl (kc 1, 16, .inl (fun _ => 0))), (q3, .inl (kc 1, 10, .inl (fun _ => 0))), (q4, .inl (kc 1, 10, .inl (fun _ => 0))), (q5, .inl (kc 1, 10, .inl (fun _ => 0))), (q6, .inl (kc 1, 4, .inl (fun _ => 0))), (q7, .inl (kc 1, 24, .inl (fun _ => 0)))] H := hP
  have hD : va_D A [(h0, .inr (6, [.ref q1, .ref q3, .ref q4, .ref q5, .ref q6, .ref q7, .int 0, .int (-2), .int 0, .int 0, .null, .null, .null, .int 0, .long 0])), (q1, .inr (1, [.ref (u2 0), .ref (u2 1), .ref (u2 2), .int 0])), ((u2 0), .inl (kc 1, 16, .inl (fun _ => 0))), ((u2 1), .inl (kc 1, 16, .inl (fun _ => 0))), ((u2 2), .inl (kc 1, 16, .inl (fun _ => 0))), (q3, .inl (kc 1, 10, .inl (fun _ => 0))), (q4, .inl (kc 1, 10, .inl (fun _ => 0))), (q5, .inl (kc 1, 10, .inl (fun _ => 0))), (q6, .inl (kc 1, 4, .inl (fun _ => 0))), (q7, .inl (kc 1, 24, .inl (fun _ => 0)))] := hD
  refine lv_aload_n hx hb dX6_init_60 rfl (lv_at hl 0 rfl) ?_
  refine lv_bipush (v := 10) hx hb dX6_init_61 (by decide) ?_
  refine g_newI hx hb ha_I hK hP hD hS hA 10 (by decide) (by decide) (Nat.le_of_ble_eq_true rfl) (Nat.le_of_ble_eq_true rfl) (Nat.le_of_ble_eq_true rfl) dX6_init_63 (fun q8 H hP hD hS => ?_)
  have hP : va_P D vwCl [(h0, .inr (6, [.ref q1, .ref q3, .ref q4, .ref q5, .ref q6, .ref q7, .int 0, .int (-2), .int 0, .int 0, .null, .null, .null, .int 0, .long 0])), (q1, .inr (1, [.ref (u2 0), .ref (u2 1), .ref (u2 2), .int 0])), ((u2 0), .inl (kc 1, 16, .inl (fun _ => 0))), ((u2 1), .inl (kc 1, 16, .inl (fun _ => 0))), ((u2 2), .inl (kc 1, 16, .inl (fun _ => 0))), (q3, .inl (kc 1, 10, .inl (fun _ => 0))), (q4, .inl (kc 1, 10, .inl (fun _ => 0))), (q5, .inl (kc 1, 10, .inl (fun _ => 0))), (q6, .inl (kc 1, 4, .inl (fun _ => 0))), (q7, .inl (kc 1, 24, .inl (fun _ => 0))), (q8, .inl (kc 1, 10, .inl (fun _ => 0)))] H := hP
  have hD : va_D A [(h0, .inr (6, [.ref q1, .ref q3, .ref q4, .ref q5, .ref q6, .ref q7, .int 0, .int (-2), .int 0, .int 0, .null, .null, .null, .int 0, .long 0])), (q1, .inr (1, [.ref (u2 0), .ref (u2 1), .ref (u2 2), .int 0])), ((u2 0), .inl (kc 1, 16, .inl (fun _ => 0))), ((u2 1), .inl (kc 1, 16, .inl (fun _ => 0))), ((u2 2), .inl (kc 1, 16, .inl (fun _ => 0))), (q3, .inl (kc 1, 10, .inl (fun _ => 0))), (q4, .inl (kc 1, 10, .inl (fun _ => 0))), (q5, .inl (kc 1, 10, .inl (fun _ => 0))), (q6, .inl (kc 1, 4, .inl (fun _ => 0))), (q7, .inl (kc 1, 24, .inl (fun _ => 0))), (q8, .inl (kc 1, 10, .inl (fun _ => 0)))] := hD
  refine va_putF (D := D) (ci := 6) (v := .ref q8) (ty := .array .int) (C := RX6) (T := TX6) (N := 15) hx hb hts in_X6 tyX6 tyX6_ok nmX6 hown hK hP hD hS 0 rfl rfl 10 (by decide) lk_38 (fun _ h9 => h9) rfl hin rfl (by decide +kernel) rfl rfl (Nat.le_of_ble_eq_true rfl) dX6_init_65 (fun H locs hP hD hS => ?_)
  have hP : va_P D vwCl [(h0, .inr (6, [.ref q1, .ref q3, .ref q4, .ref q5, .ref q6, .ref q7, .int 0, .int (-2), .int 0, .int 0, .ref q8, .null, .null, .int 0, .long 0])), (q1, .inr (1, [.ref (u2 0), .ref (u2 1), .ref (u2 2), .int 0])), ((u2 0), .inl (kc 1, 16, .inl (fun _ => 0))), ((u2 1), .inl (kc 1, 16, .inl (fun _ => 0))), ((u2 2), .inl (kc 1, 16, .inl (fun _ => 0))), (q3, .inl (kc 1, 10, .inl (fun _ => 0))), (q4, .inl (kc 1, 10, .inl (fun _ => 0))), (q5, .inl (kc 1, 10, .inl (fun _ => 0))), (q6, .inl (kc 1, 4, .inl (fun _ => 0))), (q7, .inl (kc 1, 24, .inl (fun _ => 0))), (q8, .inl (kc 1, 10, .inl (fun _ => 0)))] H := hP
  have hD : va_D A [(h0, .inr (6, [.ref q1, .ref q3, .ref q4, .ref q5, .ref q6, .ref q7, .int 0, .int (-2), .int 0, .int 0, .ref q8, .null, .null, .int 0, .long 0])), (q1, .inr (1, [.ref (u2 0), .ref (u2 1), .ref (u2 2), .int 0])), ((u2 0), .inl (kc 1, 16, .inl (fun _ => 0))), ((u2 1), .inl (kc 1, 16, .inl (fun _ => 0))), ((u2 2), .inl (kc 1, 16, .inl (fun _ => 0))), (q3, .inl (kc 1, 10, .inl (fun _ => 0))), (q4, .inl (kc 1, 10, .inl (fun _ => 0))), (q5, .inl (kc 1, 10, .inl (fun _ => 0))), (q6, .inl (kc 1, 4, .inl (fun _ => 0))), (q7, .inl (kc 1, 24, .inl (fun _ => 0))), (q8, .inl (kc 1, 10, .inl (fun _ => 0)))] := hD
  refine lv_aload_n hx hb dX6_init_68 rfl (lv_at hl 0 rfl) ?_
  refine lv_bipush (v := 10) hx hb dX6_init_69 (by decide) ?_
  refine g_newI hx hb ha_I hK hP hD hS hA 10 (by decide) (by decide) (Nat.le_of_ble_eq_true rfl) (Nat.le_of_ble_eq_true rfl) (Nat.le_of_ble_eq_true rfl) dX6_init_71 (fun q9 H hP hD hS => ?_)
  have hP : va_P D vwCl [(h0, .inr (6, [.ref q1, .ref q3, .ref q4, .ref q5, .ref q6, .ref q7, .int 0, .int (-2), .int 0, .int 0, .ref q8, .null, .null, .int 0, .long 0])), (q1, .inr (1, [.ref (u2 0), .ref (u2 1), .ref (u2 2), .int 0])), ((u2 0), .inl (kc 1, 16, .inl (fun _ => 0))), ((u2 1), .inl (kc 1, 16, .inl (fun _ => 0))), ((u2 2), .inl (kc 1, 16, .inl (fun _ => 0))), (q3, .inl (kc 1, 10, .inl (fun _ => 0))), (q4, .inl (kc 1, 10, .inl (fun _ => 0))), (q5, .inl (kc 1, 10, .inl (fun _ => 0))), (q6, .inl (kc 1, 4, .inl (fun _ => 0))), (q7, .inl (kc 1, 24, .inl (fun _ => 0))), (q8, .inl (kc 1, 10, .inl (fun _ => 0))), (q9, .inl (kc 1, 10, .inl (fun _ => 0)))] H := hP
  have hD : va_D A [(h0, .inr (6, [.ref q1, .ref q3, .ref q4, .ref q5, .ref q6, .ref q7, .int 0, .int (-2), .int 0, .int 0, .ref q8, .null, .null, .int 0, .long 0])), (q1, .inr (1, [.ref (u2 0), .ref (u2 1), .ref (u2 2), .int 0])), ((u2 0), .inl (kc 1, 16, .inl (fun _ => 0))), ((u2 1), .inl (kc 1, 16, .inl (fun _ => 0))), ((u2 2), .inl (kc 1, 16, .inl (fun _ => 0))), (q3, .inl (kc 1, 10, .inl (fun _ => 0))), (q4, .inl (kc 1, 10, .inl (fun _ => 0))), (q5, .inl (kc 1, 10, .inl (fun _ => 0))), (q6, .inl (kc 1, 4, .inl (fun _ => 0))), (q7, .inl (kc 1, 24, .inl (fun _ => 0))), (q8, .inl (kc 1, 10, .inl (fun _ => 0))), (q9, .inl (kc 1, 10, .inl (fun _ => 0)))] := hD
  refine va_putF (D := D) (ci := 6) (v := .ref q9) (ty := .array .int) (C := RX6) (T := TX6) (N := 15) hx hb hts in_X6 tyX6 tyX6_ok nmX6 hown hK hP hD hS 0 rfl rfl 11 (by decide) lk_41 (fun _ h9 => h9) rfl hin rfl (by decide +kernel) rfl rfl (Nat.le_of_ble_eq_true rfl) dX6_init_73 (fun H locs hP hD hS => ?_)
  have hP : va_P D vwCl [(h0, .inr (6, [.ref q1, .ref q3, .ref q4, .ref q5, .ref q6, .ref q7, .int 0, .int (-2), .int 0, .int 0, .ref q8, .ref q9, .null, .int 0, .long 0])), (q1, .inr (1, [.ref (u2 0), .ref (u2 1), .ref (u2 2), .int 0])), ((u2 0), .inl (kc 1, 16, .inl (fun _ => 0))), ((u2 1), .inl (kc 1, 16, .inl (fun _ => 0))), ((u2 2), .inl (kc 1, 16, .inl (fun _ => 0))), (q3, .inl (kc 1, 10, .inl (fun _ => 0))), (q4, .inl (kc 1, 10, .inl (fun _ => 0))), (q5, .inl (kc 1, 10, .inl (fun _ => 0))), (q6, .inl (kc 1, 4, .inl (fun _ => 0))), (q7, .inl (kc 1, 24, .inl (fun _ => 0))), (q8, .inl (kc 1, 10, .inl (fun _ => 0))), (q9, .inl (kc 1, 10, .inl (fun _ => 0)))] H := hP
  have hD : va_D A [(h0, .inr (6, [.ref q1, .ref q3, .ref q4, .ref q5, .ref q6, .ref q7, .int 0, .int (-2), .int 0, .int 0, .ref q8, .ref q9, .null, .int 0, .long 0])), (q1, .inr (1, [.ref (u2 0), .ref (u2 1), .ref (u2 2), .int 0])), ((u2 0), .inl (kc 1, 16, .inl (fun _ => 0))), ((u2 1), .inl (kc 1, 16, .inl (fun _ => 0))), ((u2 2), .inl (kc 1, 16, .inl (fun _ => 0))), (q3, .inl (kc 1, 10, .inl (fun _ => 0))), (q4, .inl (kc 1, 10, .inl (fun _ => 0))), (q5, .inl (kc 1, 10, .inl (fun _ => 0))), (q6, .inl (kc 1, 4, .inl (fun _ => 0))), (q7, .inl (kc 1, 24, .inl (fun _ => 0))), (q8, .inl (kc 1, 10, .inl (fun _ => 0))), (q9, .inl (kc 1, 10, .inl (fun _ => 0)))] := hD
  refine lv_aload_n hx hb dX6_init_76 rfl (lv_at hl 0 rfl) ?_
  refine lv_bipush (v := 10) hx hb dX6_init_77 (by decide) ?_
  refine g_newI hx hb ha_I hK hP hD hS hA 10 (by decide) (by decide) (Nat.le_of_ble_eq_true rfl) (Nat.le_of_ble_eq_true rfl) (Nat.le_of_ble_eq_true rfl) dX6_init_79 (fun q10 H hP hD hS => ?_)
  have hP : va_P D vwCl [(h0, .inr (6, [.ref q1, .ref q3, .ref q4, .ref q5, .ref q6, .ref q7, .int 0, .int (-2), .int 0, .int 0, .ref q8, .ref q9, .null, .int 0, .long 0])), (q1, .inr (1, [.ref (u2 0), .ref (u2 1), .ref (u2 2), .int 0])), ((u2 0), .inl (kc 1, 16, .inl (fun _ => 0))), ((u2 1), .inl (kc 1, 16, .inl (fun _ => 0))), ((u2 2), .inl (kc 1, 16, .inl (fun _ => 0))), (q3, .inl (kc 1, 10, .inl (fun _ => 0))), (q4, .inl (kc 1, 10, .inl (fun _ => 0))), (q5, .inl (kc 1, 10, .inl (fun _ => 0))), (q6, .inl (kc 1, 4, .inl (fun _ => 0))), (q7, .inl (kc 1, 24, .inl (fun _ => 0))), (q8, .inl (kc 1, 10, .inl (fun _ => 0))), (q9, .inl (kc 1, 10, .inl (fun _ => 0))), (q10, .inl (kc 1, 10, .inl (fun _ => 0)))] H := hP
  have hD : va_D A [(h0, .inr (6, [.ref q1, .ref q3, .ref q4, .ref q5, .ref q6, .ref q7, .int 0, .int (-2), .int 0, .int 0, .ref q8, .ref q9, .null, .int 0, .long 0])), (q1, .inr (1, [.ref (u2 0), .ref (u2 1), .ref (u2 2), .int 0])), ((u2 0), .inl (kc 1, 16, .inl (fun _ => 0))), ((u2 1), .inl (kc 1, 16, .inl (fun _ => 0))), ((u2 2), .inl (kc 1, 16, .inl (fun _ => 0))), (q3, .inl (kc 1, 10, .inl (fun _ => 0))), (q4, .inl (kc 1, 10, .inl (fun _ => 0))), (q5, .inl (kc 1, 10, .inl (fun _ => 0))), (q6, .inl (kc 1, 4, .inl (fun _ => 0))), (q7, .inl (kc 1, 24, .inl (fun _ => 0))), (q8, .inl (kc 1, 10, .inl (fun _ => 0))), (q9, .inl (kc 1, 10, .inl (fun _ => 0))), (q10, .inl (kc 1, 10, .inl (fun _ => 0)))] := hD
  refine va_putF (D := D) (ci := 6) (v := .ref q10) (ty := .array .int) (C := RX6) (T := TX6) (N := 15) hx hb hts in_X6 tyX6 tyX6_ok nmX6 hown hK hP hD hS 0 rfl rfl 12 (by decide) lk_44 (fun _ h9 => h9) rfl hin rfl (by decide +kernel) rfl rfl (Nat.le_of_ble_eq_true rfl) dX6_init_81 (fun H locs hP hD hS => ?_)
  have hP : va_P D vwCl [(h0, .inr (6, [.ref q1, .ref q3, .ref q4, .ref q5, .ref q6, .ref q7, .int 0, .int (-2), .int 0, .int 0, .ref q8, .ref q9, .ref q10, .int 0, .long 0])), (q1, .inr (1, [.ref (u2 0), .ref (u2 1), .ref (u2 2), .int 0])), ((u2 0), .inl (kc 1, 16, .inl (fun _ => 0))), ((u2 1), .inl (kc 1, 16, .inl (fun _ => 0))), ((u2 2), .inl (kc 1, 16, .inl (fun _ => 0))), (q3, .inl (kc 1, 10, .inl (fun _ => 0))), (q4, .inl (kc 1, 10, .inl (fun _ => 0))), (q5, .inl (kc 1, 10, .inl (fun _ => 0))), (q6, .inl (kc 1, 4, .inl (fun _ => 0))), (q7, .inl (kc 1, 24, .inl (fun _ => 0))), (q8, .inl (kc 1, 10, .inl (fun _ => 0))), (q9, .inl (kc 1, 10, .inl (fun _ => 0))), (q10, .inl (kc 1, 10, .inl (fun _ => 0)))] H := hP
  have hD : va_D A [(h0, .inr (6, [.ref q1, .ref q3, .ref q4, .ref q5, .ref q6, .ref q7, .int 0, .int (-2), .int 0, .int 0, .ref q8, .ref q9, .ref q10, .int 0, .long 0])), (q1, .inr (1, [.ref (u2 0), .ref (u2 1), .ref (u2 2), .int 0])), ((u2 0), .inl (kc 1, 16, .inl (fun _ => 0))), ((u2 1), .inl (kc 1, 16, .inl (fun _ => 0))), ((u2 2), .inl (kc 1, 16, .inl (fun _ => 0))), (q3, .inl (kc 1, 10, .inl (fun _ => 0))), (q4, .inl (kc 1, 10, .inl (fun _ => 0))), (q5, .inl (kc 1, 10, .inl (fun _ => 0))), (q6, .inl (kc 1, 4, .inl (fun _ => 0))), (q7, .inl (kc 1, 24, .inl (fun _ => 0))), (q8, .inl (kc 1, 10, .inl (fun _ => 0))), (q9, .inl (kc 1, 10, .inl (fun _ => 0))), (q10, .inl (kc 1, 10, .inl (fun _ => 0)))] := hD
  have hP9 : va_P D vwCl (n_X6 kc h0 (fun k => ([q1, (u2 0), (u2 1), (u2 2), q3, q4, q5, q6, q7, q8, q9, q10] : List Nat).getD k 0)) H := hP
  have hD9 : va_D A (n_X6 kc h0 (fun k => ([q1, (u2 0), (u2 1), (u2 2), q3, q4, q5, q6, q7, q8, q9, q10] : List Nat).getD k 0)) := hD
  exact W.vret hx hb hr (fun t ht hW => ⟨⟨(fun k => ([q1, (u2 0), (u2 1), (u2 2), q3, q4, q5, q6, q7, q8, q9, q10] : List Nat).getD k 0), rfl, trivial, by rw [ht]; exact hP9, va_K.moved hW.alike hK, by rw [hAe]; exact hD9⟩, by rw [hAe]; exact hS.F ht⟩) (by rw [hAe]; exact hS.2.2) dX6_init_84 hlocks
