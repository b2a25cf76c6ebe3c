theorem pX_P {D : va_G} {cl : List vw_C} {X pl : va_W} {H : Heap} (hP : va_P D cl (X ++ pl) H) : va_P D cl X H ∧ va_P D cl pl H := ⟨fun k q hk => hP k q (by rw [List.getElem?_append_left (List.getElem?_eq_some_iff.mp hk).1]; exact hk), fun k q hk => hP (X.length + k) q (by rw [List.getElem?_append_right (Nat.le_add_right _ _), Nat.add_sub_cancel_left]; exact hk)⟩
theorem pX_D {A : Nat → Prop} {X pl : va_W} (hD : va_D A (X ++ pl)) : va_D A X ∧ va_D A pl ∧ ∀ p ∈ X, ∀ q ∈ pl, p.1 ≠ q.1 := by
  have hl : ∀ {k : Nat} {q : Nat × va_E}, X[k]? = some q → (X ++ pl)[k]? = some q := fun hk => by rw [List.getElem?_append_left (List.getElem?_eq_some_iff.mp hk).1]; exact hk
  have hr : ∀ {k : Nat} {q : Nat × va_E}, pl[k]? = some q → (X ++ pl)[X.length + k]? = some q := fun hk => by rw [List.getElem?_append_right (Nat.le_add_right _ _), Nat.add_sub_cancel_left]; exact hk
  refine ⟨⟨fun i j x y hi hj hxy => hD.1 i j x y (hl hi) (hl hj) hxy, fun k q hk => hD.2 k q (hl hk)⟩, ⟨fun i j x y hi hj hxy => ?_, fun k q hk => hD.2 _ q (hr hk)⟩, fun p hp q hq e => ?_⟩
  · have := hD.1 _ _ x y (hr hi) (hr hj) hxy
    omega
  · obtain ⟨i, hi⟩ := List.getElem?_of_mem hp
    obtain ⟨j, hj⟩ := List.getElem?_of_mem hq
    have h1 := hD.1 _ _ p q (hl hi) (hr hj) e
    have h2 := (List.getElem?_eq_some_iff.mp hi).1
    omega
/-- the fixed part of a world in another order -/
theorem pX {A : Nat → Prop} {D : va_G} {cl : List vw_C} {X X' pl : va_W} {H : Heap} {pm : List Nat} (hm : pm.map (fun i => X[i]?) = X'.map some) (hn : va_nd pm = true) (hP : va_P D cl (X ++ pl) H) (hD : va_D A (X ++ pl)) : va_P D cl (X' ++ pl) H ∧ va_D A (X' ++ pl) := by
  obtain ⟨h1, h2⟩ := pX_P hP
  obtain ⟨d1, d2, d3⟩ := pX_D hD
  refine ⟨(h1.sub pm (fm_of_map _ _ _ hm)).app h2, (d1.sub pm hn hm).app d2 (fun i j p q hp hq => ?_)⟩
  refine d3 p ?_ q (List.mem_of_getElem? hq)
  have h : some p ∈ X'.map some := List.mem_map.mpr ⟨p, List.mem_of_getElem? hp, rfl⟩
  rw [← hm] at h
  obtain ⟨k, -, hk⟩ := List.mem_map.mp h
  exact List.mem_of_getElem? hk
theorem gp_VI {p : Program} {l : Launch} {e : Env} {R : Room} {s : State} {m : MethodId} {args : Array Value} {below : List Frame} {meth : Method} {c : Code} {H : Heap} {locs : List Loc} {cells slots : Nat} {Q : State → Prop} {A : Nat → Prop} {D : va_G} {kc : Nat → ClassId} {X pl : va_W} {cc : ByteArray} {nL : Nat} {Ts : List Cond} {own : String} {y : MethodName} {bytes : ByteArray} {maxL : Nat} {ret : Option FieldType} {wl : List Cond} {rm : Room} {n index : Nat} {As rest : List Value} {wc wc' X' : va_W} {pc : Nat} {ls : Array Slot} {st : List Value} {C : String} {b : Nat} {r : Int32} (S : CallFix p m c cc nL s args Ts own) (hN : gN s) (hK : va_K D vwCl (tyL kc) s) (hP : va_P D vwCl (X ++ pl) H) (hD : va_D A (X ++ pl)) (hS : va_S A s.heap H locs) (hA : ∀ q : Nat, s.heap.size ≤ q → A q) (hM : MI l y wl rm D kc (.ref b :: As) wc wc' r) (cw : CallW R s args own C index y bytes maxL ret wl rm 0 0 n) (isC isR pm : List Nat) (hcut : gCut X wc wc' X' isC isR pm) (q0 ci : Nat) {q : vw_C} {fs : List Value} (he : X[q0]? = some (b, .inr (ci, fs))) (hc : vwCl[ci]? = some q) (hqC : q.1 = C) (hn : As.length = n) (hsize : ls.size = nL) (hst : st = As.reverse ++ .ref b :: rest) (hW : (rest.map fun v => v.category).sum ≤ 8) (hdg : decode cc pc = .ok (.invokevirtual index, 3)) (hf : cells + 0 ≤ R.cells ∧ slots + 0 ≤ R.slots)
    (kk : ∀ (H1 : Heap) (locs1 : List Loc), va_P D vwCl (X' ++ pl) H1 → va_D A (X' ++ pl) → va_S A s.heap H1 locs1 → W p l e R s m args below meth c H1 locs1 cells slots Q (F0 m (pc + 3) ls (.int r :: rest))) : W p l e R s m args below meth c H locs cells slots Q (F0 m pc ls st) := by
  obtain ⟨c1, c2, c3, c4⟩ := hcut
  simp only [Bool.and_eq_true] at c3
  obtain ⟨⟨⟨n1, n2⟩, n3⟩, n4⟩ := c3
  have hPX := (pX_P hP).1
  have hDX := (pX_D hD).1
  have hPc : va_P D vwCl wc H := hPX.sub isC (fm_of_map _ _ _ c1)
  have hDc : va_D A wc := hDX.sub isC n1 c1
  have hFc := va_free (wc := wc) hDX hS hA isC c1
  refine va_calli (va_runV (As := As) (rest := rest) S (hM H.size) cw ⟨gPre_blind _ _ _ _ _, hqC ▸ va_recv hK hPX hc he, fun U hU hW9 => ⟨rfl, by rw [hU], by rw [hU]; exact hPc, va_K.moved hW9.alike hK, hDc.weaken (fun _ _ _ _ => trivial), gN.warm hW9 hN⟩⟩ rfl hn hsize hst (lv_room hW) hdg hf) hS (fun q _ h => hFc q h) hFc (fun r' u t H1 locs1 ht hvm hw hB hz1 hk1 hS1 => ?_)
  obtain ⟨hP1, hK1, hD1⟩ := hB
  rw [ht] at hP1
  obtain ⟨hP2, hD2⟩ := va_joinQ hP hD isC isR c1 c2 n2 (fun i hi hc => by
    have := List.all_eq_true.mp n4 i hi
    simp at this
    exact this hc) hk1 hFc hP1 hD1
  obtain ⟨hP3, hD3⟩ := pX c4 n3 hP2 hD2
  have hw : r' = r := hw
  rw [hw]
  exact kk H1 locs1 hP3 hD3 hS1
theorem gp_VZ {p : Program} {l : Launch} {e : Env} {R : Room} {s : State} {m : MethodId} {args : Array Value} {below : List Frame} {meth : Method} {c : Code} {H : Heap} {locs : List Loc} {cells slots : Nat} {Q : State → Prop} {A : Nat → Prop} {D : va_G} {kc : Nat → ClassId} {X pl : va_W} {cc : ByteArray} {nL : Nat} {Ts : List Cond} {own : String} {y : MethodName} {bytes : ByteArray} {maxL : Nat} {ret : Option FieldType} {wl : List Cond} {rm : Room} {n index : Nat} {As rest : List Value} {wc wc' X' : va_W} {pc : Nat} {ls : Array Slot} {st : List Value} {C : String} {b : Nat} {r : Int32} (S : CallFix p m c cc nL s args Ts own) (hN : gN s) (hK : va_K D vwCl (tyL kc) s) (hP : va_P D vwCl (X ++ pl) H) (hD : va_D A (X ++ pl)) (hS : va_S A s.heap H locs) (hA : ∀ q : Nat, s.heap.size ≤ q → A q) (hM : MZ l y wl rm D kc (.ref b :: As) wc wc' r) (cw : CallW R s args own C index y bytes maxL ret wl rm 0 0 n) (isC isR pm : List Nat) (hcut : gCut X wc wc' X' isC isR pm) (q0 ci : Nat) {q : vw_C} {fs : List Value} (he : X[q0]? = some (b, .inr (ci, fs))) (hc : vwCl[ci]? = some q) (hqC : q.1 = C) (hn : As.length = n) (hsize : ls.size = nL) (hst : st = As.reverse ++ .ref b :: rest) (hW : (rest.map fun v => v.category).sum ≤ 8) (hdg : decode cc pc = .ok (.invokevirtual index, 3)) (hf : cells + 0 ≤ R.cells ∧ slots + 0 ≤ R.slots)
    (kk : ∀ (H1 : Heap) (locs1 : List Loc), (r = 0 ∨ r = 1) → va_P D vwCl (X' ++ pl) H1 → va_D A (X' ++ pl) → va_S A s.heap H1 locs1 → W p l e R s m args below meth c H1 locs1 cells slots Q (F0 m (pc + 3) ls (.int r :: rest))) : W p l e R s m args below meth c H locs cells slots Q (F0 m pc ls st) := by
  obtain ⟨c1, c2, c3, c4⟩ := hcut
  simp only [Bool.and_eq_true] at c3
  obtain ⟨⟨⟨n1, n2⟩, n3⟩, n4⟩ := c3
  have hPX := (pX_P hP).1
  have hDX := (pX_D hD).1
  have hPc : va_P D vwCl wc H := hPX.sub isC (fm_of_map _ _ _ c1)
  have hDc : va_D A wc := hDX.sub isC n1 c1
  have hFc := va_free (wc := wc) hDX hS hA isC c1
  refine va_calli (va_runV (As := As) (rest := rest) S (hM H.size) cw ⟨gPre_blind _ _ _ _ _, hqC ▸ va_recv hK hPX hc he, fun U hU hW9 => ⟨rfl, by rw [hU], by rw [hU]; exact hPc, va_K.moved hW9.alike hK, hDc.weaken (fun _ _ _ _ => trivial), gN.warm hW9 hN⟩⟩ rfl hn hsize hst (lv_room hW) hdg hf) hS (fun q _ h => hFc q h) hFc (fun r' u t H1 locs1 ht hvm hw hB hz1 hk1 hS1 => ?_)
  obtain ⟨hP1, hK1, hD1⟩ := hB
  rw [ht] at hP1
  obtain ⟨hP2, hD2⟩ := va_joinQ hP hD isC isR c1 c2 n2 (fun i hi hc => by
    have := List.all_eq_true.mp n4 i hi
    simp at this
    exact this hc) hk1 hFc hP1 hD1
  obtain ⟨hP3, hD3⟩ := pX c4 n3 hP2 hD2
  have hw : r' = r ∧ (r = 0 ∨ r = 1) := hw
  rw [hw.1]
  exact kk H1 locs1 hw.2 hP3 hD3 hS1
theorem gp_VL {p : Program} {l : Launch} {e : Env} {R : Room} {s : State} {m : MethodId} {args : Array Value} {below : List Frame} {meth : Method} {c : Code} {H : Heap} {locs : List Loc} {cells slots : Nat} {Q : State → Prop} {A : Nat → Prop} {D : va_G} {kc : Nat → ClassId} {X pl : va_W} {cc : ByteArray} {nL : Nat} {Ts : List Cond} {own : String} {y : MethodName} {bytes : ByteArray} {maxL : Nat} {ret : Option FieldType} {wl : List Cond} {rm : Room} {n index : Nat} {As rest : List Value} {wc wc' X' : va_W} {pc : Nat} {ls : Array Slot} {st : List Value} {C : String} {b : Nat} {r : Int64} (S : CallFix p m c cc nL s args Ts own) (hN : gN s) (hK : va_K D vwCl (tyL kc) s) (hP : va_P D vwCl (X ++ pl) H) (hD : va_D A (X ++ pl)) (hS : va_S A s.heap H locs) (hA : ∀ q : Nat, s.heap.size ≤ q → A q) (hM : ML l y wl rm D kc (.ref b :: As) wc wc' r) (cw : CallW R s args own C index y bytes maxL ret wl rm 0 0 n) (isC isR pm : List Nat) (hcut : gCut X wc wc' X' isC isR pm) (q0 ci : Nat) {q : vw_C} {fs : List Value} (he : X[q0]? = some (b, .inr (ci, fs))) (hc : vwCl[ci]? = some q) (hqC : q.1 = C) (hn : As.length = n) (hsize : ls.size = nL) (hst : st = As.reverse ++ .ref b :: rest) (hW : (rest.map fun v => v.category).sum ≤ 8) (hdg : decode cc pc = .ok (.invokevirtual index, 3)) (hf : cells + 0 ≤ R.cells ∧ slots + 0 ≤ R.slots)
    (kk : ∀ (H1 : Heap) (locs1 : List Loc), va_P D vwCl (X' ++ pl) H1 → va_D A (X' ++ pl) → va_S A s.heap H1 locs1 → W p l e R s m args below meth c H1 locs1 cells slots Q (F0 m (pc + 3) ls (.long r :: rest))) : W p l e R s m args below meth c H locs cells slots Q (F0 m pc ls st) := by
  obtain ⟨c1, c2, c3, c4⟩ := hcut
  simp only [Bool.and_eq_true] at c3
  obtain ⟨⟨⟨n1, n2⟩, n3⟩, n4⟩ := c3
  have hPX := (pX_P hP).1
  have hDX := (pX_D hD).1
  have hPc : va_P D vwCl wc H := hPX.sub isC (fm_of_map _ _ _ c1)
  have hDc : va_D A wc := hDX.sub isC n1 c1
  have hFc := va_free (wc := wc) hDX hS hA isC c1
  refine va_calll (va_runV (As := As) (rest := rest) S (hM H.size) cw ⟨gPre_blind _ _ _ _ _, hqC ▸ va_recv hK hPX hc he, fun U hU hW9 => ⟨rfl, by rw [hU], by rw [hU]; exact hPc, va_K.moved hW9.alike hK, hDc.weaken (fun _ _ _ _ => trivial), gN.warm hW9 hN⟩⟩ rfl hn hsize hst (lv_room hW) hdg hf) hS (fun q _ h => hFc q h) hFc (fun r' u t H1 locs1 ht hvm hw hB hz1 hk1 hS1 => ?_)
  obtain ⟨hP1, hK1, hD1⟩ := hB
  rw [ht] at hP1
  obtain ⟨hP2, hD2⟩ := va_joinQ hP hD isC isR c1 c2 n2 (fun i hi hc => by
    have := List.all_eq_true.mp n4 i hi
    simp at this
    exact this hc) hk1 hFc hP1 hD1
  obtain ⟨hP3, hD3⟩ := pX c4 n3 hP2 hD2
  have hw : r' = r := hw
  rw [hw]
  exact kk H1 locs1 hP3 hD3 hS1
theorem gp_VV {p : Program} {l : Launch} {e : Env} {R : Room} {s : State} {m : MethodId} {args : Array Value} {below : List Frame} {meth : Method} {c : Code} {H : Heap} {locs : List Loc} {cells slots : Nat} {Q : State → Prop} {A : Nat → Prop} {D : va_G} {kc : Nat → ClassId} {X pl : va_W} {cc : ByteArray} {nL : Nat} {Ts : List Cond} {own : String} {y : MethodName} {bytes : ByteArray} {maxL : Nat} {ret : Option FieldType} {wl : List Cond} {rm : Room} {n index : Nat} {As rest : List Value} {wc wc' X' : va_W} {pc : Nat} {ls : Array Slot} {st : List Value} {C : String} {b : Nat} (S : CallFix p m c cc nL s args Ts own) (hN : gN s) (hK : va_K D vwCl (tyL kc) s) (hP : va_P D vwCl (X ++ pl) H) (hD : va_D A (X ++ pl)) (hS : va_S A s.heap H locs) (hA : ∀ q : Nat, s.heap.size ≤ q → A q) (hM : MV l y wl rm D kc (.ref b :: As) wc wc') (cw : CallW R s args own C index y bytes maxL ret wl rm 0 0 n) (isC isR pm : List Nat) (hcut : gCut X wc wc' X' isC isR pm) (q0 ci : Nat) {q : vw_C} {fs : List Value} (he : X[q0]? = some (b, .inr (ci, fs))) (hc : vwCl[ci]? = some q) (hqC : q.1 = C) (hn : As.length = n) (hsize : ls.size = nL) (hst : st = As.reverse ++ .ref b :: rest) (hW : (rest.map fun v => v.category).sum ≤ 8) (hdg : decode cc pc = .ok (.invokevirtual index, 3)) (hf : cells + 0 ≤ R.cells ∧ slots + 0 ≤ R.slots)
    (kk : ∀ (H1 : Heap) (locs1 : List Loc), va_P D vwCl (X' ++ pl) H1 → va_D A (X' ++ pl) → va_S A s.heap H1 locs1 → W p l e R s m args below meth c H1 locs1 cells slots Q (F0 m (pc + 3) ls rest)) : W p l e R s m args below meth c H locs cells slots Q (F0 m pc ls st) := by
  obtain ⟨c1, c2, c3, c4⟩ := hcut
  simp only [Bool.and_eq_true] at c3
  obtain ⟨⟨⟨n1, n2⟩, n3⟩, n4⟩ := c3
  have hPX := (pX_P hP).1
  have hDX := (pX_D hD).1
  have hPc : va_P D vwCl wc H := hPX.sub isC (fm_of_map _ _ _ c1)
  have hDc : va_D A wc := hDX.sub isC n1 c1
  have hFc := va_free (wc := wc) hDX hS hA isC c1
  refine va_callv (va_runV (As := As) (rest := rest) S (hM H.size) cw ⟨gPre_blind _ _ _ _ _, hqC ▸ va_recv hK hPX hc he, fun U hU hW9 => ⟨rfl, by rw [hU], by rw [hU]; exact hPc, va_K.moved hW9.alike hK, hDc.weaken (fun _ _ _ _ => trivial), gN.warm hW9 hN⟩⟩ rfl hn hsize hst (lv_room hW) hdg hf) hS (fun q _ h => hFc q h) hFc (fun u t H1 locs1 ht hvm hw hB hz1 hk1 hS1 => ?_)
  obtain ⟨hP1, hK1, hD1⟩ := hB
  rw [ht] at hP1
  obtain ⟨hP2, hD2⟩ := va_joinQ hP hD isC isR c1 c2 n2 (fun i hi hc => by
    have := List.all_eq_true.mp n4 i hi
    simp at this
    exact this hc) hk1 hFc hP1 hD1
  obtain ⟨hP3, hD3⟩ := pX c4 n3 hP2 hD2
  exact kk H1 locs1 hP3 hD3 hS1
theorem gp_VIs {p : Program} {l : Launch} {e : Env} {R : Room} {s : State} {m : MethodId} {args : Array Value} {below : List Frame} {meth : Method} {c : Code} {H : Heap} {locs : List Loc} {cells slots : Nat} {Q : State → Prop} {A : Nat → Prop} {D : va_G} {kc : Nat → ClassId} {X pl : va_W} {cc : ByteArray} {nL : Nat} {Ts : List Cond} {own : String} {y : MethodName} {bytes : ByteArray} {maxL : Nat} {ret : Option FieldType} {wl : List Cond} {rm : Room} {n index : Nat} {As rest : List Value} {wc wc' X' : va_W} {pc : Nat} {ls : Array Slot} {st : List Value} {C : String} {b : Nat} {adK adV : Nat → Nat} {r : Int32} (S : CallFix p m c cc nL s args Ts own) (hN : gN s) (hG : gS adK adV A s s.heap) (hK : va_K D vwCl (tyL kc) s) (hP : va_P D vwCl (X ++ pl) H) (hD : va_D A (X ++ pl)) (hS : va_S A s.heap H locs) (hA : ∀ q : Nat, s.heap.size ≤ q → A q) (hM : MIs l y wl rm D kc adK adV (.ref b :: As) wc wc' r) (cw : CallW R s args own C index y bytes maxL ret wl rm 0 0 n) (isC isR pm : List Nat) (hcut : gCut X wc wc' X' isC isR pm) (q0 ci : Nat) {q : vw_C} {fs : List Value} (he : X[q0]? = some (b, .inr (ci, fs))) (hc : vwCl[ci]? = some q) (hqC : q.1 = C) (hn : As.length = n) (hsize : ls.size = nL) (hst : st = As.reverse ++ .ref b :: rest) (hW : (rest.map fun v => v.category).sum ≤ 8) (hdg : decode cc pc = .ok (.invokevirtual index, 3)) (hf : cells + 0 ≤ R.cells ∧ slots + 0 ≤ R.slots)
    (kk : ∀ (H1 : Heap) (locs1 : List Loc), va_P D vwCl (X' ++ pl) H1 → va_D A (X' ++ pl) → va_S A s.heap H1 locs1 → W p l e R s m args below meth c H1 locs1 cells slots Q (F0 m (pc + 3) ls (.int r :: rest))) : W p l e R s m args below meth c H locs cells slots Q (F0 m pc ls st) := by
  obtain ⟨c1, c2, c3, c4⟩ := hcut
  simp only [Bool.and_eq_true] at c3
  obtain ⟨⟨⟨n1, n2⟩, n3⟩, n4⟩ := c3
  have hPX := (pX_P hP).1
  have hDX := (pX_D hD).1
  have hPc : va_P D vwCl wc H := hPX.sub isC (fm_of_map _ _ _ c1)
  have hDc : va_D A wc := hDX.sub isC n1 c1
  have hFc := va_free (wc := wc) hDX hS hA isC c1
  refine va_calli (va_runV (As := As) (rest := rest) S (hM H.size) cw ⟨gPreS_blind _ _ _ _ _ _ _, hqC ▸ va_recv hK hPX hc he, fun U hU hW9 => ⟨rfl, ⟨by rw [hU], by rw [hU]; exact hPc, va_K.moved hW9.alike hK, hDc.weaken (fun _ _ _ _ => trivial), gN.warm hW9 hN⟩, hG.at hS hFc hU hW9⟩⟩ rfl hn hsize hst (lv_room hW) hdg hf) hS (fun q _ h => hFc q h) hFc (fun r' u t H1 locs1 ht hvm hw hB hz1 hk1 hS1 => ?_)
  obtain ⟨hP1, hK1, hD1⟩ := hB
  rw [ht] at hP1
  obtain ⟨hP2, hD2⟩ := va_joinQ hP hD isC isR c1 c2 n2 (fun i hi hc => by
    have := List.all_eq_true.mp n4 i hi
    simp at this
    exact this hc) hk1 hFc hP1 hD1
  obtain ⟨hP3, hD3⟩ := pX c4 n3 hP2 hD2
  have hw : r' = r := hw
  rw [hw]
  exact kk H1 locs1 hP3 hD3 hS1
