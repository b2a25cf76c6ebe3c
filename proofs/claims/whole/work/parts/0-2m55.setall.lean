/-- the cells of w at the places is -/
def setAll (X : va_W) : List Nat → va_W → va_W
  | [], _ => X
  | _ :: _, [] => X
  | k :: is, q :: w => setAll (X.set k q) is w
theorem setAll_length : ∀ (is : List Nat) (w X : va_W), (setAll X is w).length = X.length
  | [], _, _ => by rw [setAll]
  | _ :: _, [], _ => by rw [setAll]
  | k :: is, q :: w, X => by rw [setAll, setAll_length is w, List.length_set]
theorem setAll_out : ∀ (is : List Nat) (w X : va_W) (k : Nat), k ∉ is → (setAll X is w)[k]? = X[k]?
  | [], _, _, _, _ => by rw [setAll]
  | _ :: _, [], _, _, _ => by rw [setAll]
  | j :: is, q :: w, X, k, h => by
    rw [setAll, setAll_out is w _ k (fun z => h (List.mem_cons_of_mem _ z)), List.getElem?_set_ne (fun e => h (by rw [e]; exact List.mem_cons_self))]
theorem setAll_in : ∀ (is : List Nat) (w X : va_W) (i k : Nat) (q : Nat × va_E), va_nd is = true → is[i]? = some k → (setAll X is w)[k]? = some q → i < w.length → w[i]? = some q
  | [], _, _, i, k, q, _, h, _, _ => by simp at h
  | _ :: _, [], _, i, k, q, _, _, _, hl => absurd hl (Nat.not_lt_zero i)
  | j :: is, x :: w, X, i, k, q, hn, h, hq, hl => by
    simp only [va_nd, Bool.and_eq_true, decide_eq_true_eq] at hn
    rw [setAll] at hq
    cases i with
    | zero =>
      rw [List.getElem?_cons_zero] at h
      cases h
      rw [setAll_out is w _ j hn.1] at hq
      by_cases hj : j < X.length
      · rw [List.getElem?_set_self hj] at hq
        exact hq
      · have hz : (X.set j x)[j]? = none := List.getElem?_eq_none (by rw [List.length_set]; omega)
        rw [hz] at hq
        cases hq
    | succ i =>
      rw [List.getElem?_cons_succ] at h ⊢
      exact setAll_in is w _ i k q hn.2 h hq (Nat.lt_of_succ_lt_succ hl)
/-- the callee's cells wc at the places is of X become wc' -/
def gCutS (X wc wc' X' : va_W) (is : List Nat) : Prop := is.map (fun i => X[i]?) = wc.map some ∧ (va_nd is && (is.length == wc'.length)) = true ∧ setAll X is wc' = X'
theorem gS_world {A : Nat → Prop} {D : va_G} {X wc wc' X' pl : va_W} {H H1 : Heap} {is : List Nat} (hP : va_P D vwCl (X ++ pl) H) (hD : va_D A (X ++ pl)) (hcut : gCutS X wc wc' X' is)
    (hk : ∀ q : Nat, q < H.size → ¬ va_A wc H.size q → H1[q]? = H[q]?) (hF : ∀ q, va_A wc H.size q → A q) (hP1 : va_P D vwCl wc' H1) (hD1 : va_D (va_A wc H.size) wc') : va_P D vwCl (X' ++ pl) H1 ∧ va_D A (X' ++ pl) := by
  obtain ⟨c1, c2, c3⟩ := hcut
  simp only [Bool.and_eq_true, beq_iff_eq] at c2
  obtain ⟨n1, n2⟩ := c2
  subst c3
  have hlen : (setAll X is wc').length = X.length := setAll_length _ _ _
  have hwc : ∀ (k : Nat) (e : va_E) (a : Nat), wc[k]? = some (a, e) → ∃ i, is[k]? = some i ∧ X[i]? = some (a, e) := by
    intro k e a h
    have h1 : (is.map (fun i => X[i]?))[k]? = some (some (a, e)) := by rw [c1, List.getElem?_map, h]; rfl
    rw [List.getElem?_map] at h1
    cases hi : is[k]? with
    | none => rw [hi] at h1; cases h1
    | some i => rw [hi] at h1; exact ⟨i, rfl, Option.some.inj h1⟩
  -- an entry of the old world that isn't the callee's keeps its cell
  have apart : ∀ (k : Nat) (q : Nat × va_E), (X ++ pl)[k]? = some q → k ∉ is → q.1 < H.size ∧ ¬ va_A wc H.size q.1 := by
    intro k q hq hni
    have hl := (hP k q hq).lt
    refine ⟨hl, fun h => ?_⟩
    rcases h with ⟨k2, e, h⟩ | h
    · obtain ⟨i, h3, h4⟩ := hwc k2 e q.1 h
      have h5 : (X ++ pl)[i]? = some (q.1, e) := by rw [List.getElem?_append_left (List.getElem?_eq_some_iff.mp h4).1]; exact h4
      have hij := hD.1 k i q (q.1, e) hq h5 rfl
      subst hij
      exact hni (List.mem_of_getElem? h3)
    · omega
  have isl : ∀ k, k ∈ is → k < X.length := by
    intro k hk2
    obtain ⟨j, hj⟩ := List.getElem?_of_mem hk2
    have h1 : (is.map (fun i => X[i]?))[j]? = some X[k]? := by rw [List.getElem?_map, hj]; rfl
    rw [c1, List.getElem?_map] at h1
    cases hw : wc[j]? with
    | none => rw [hw] at h1; cases h1
    | some z =>
      rw [hw] at h1
      have h2 : some z = X[k]? := Option.some.inj h1
      exact (List.getElem?_eq_some_iff.mp h2.symm).1
  -- what stands at a place of the new world
  have key : ∀ (k : Nat) (q : Nat × va_E), (setAll X is wc' ++ pl)[k]? = some q → (k ∉ is ∧ (X ++ pl)[k]? = some q) ∨ ∃ j : Nat, is[j]? = some k ∧ wc'[j]? = some q := by
    intro k q hq
    by_cases hm : k ∈ is
    · have hkl := isl k hm
      rw [List.getElem?_append_left (by omega)] at hq
      obtain ⟨j, hj⟩ := List.getElem?_of_mem hm
      refine Or.inr ⟨j, hj, setAll_in is wc' X j k q n1 hj hq ?_⟩
      rw [← n2]
      exact (List.getElem?_eq_some_iff.mp hj).1
    · refine Or.inl ⟨hm, ?_⟩
      by_cases hkl : k < X.length
      · rw [List.getElem?_append_left (by omega), setAll_out is wc' X k hm] at hq
        rw [List.getElem?_append_left hkl]
        exact hq
      · rw [List.getElem?_append_right (by omega), hlen] at hq
        rw [List.getElem?_append_right (by omega)]
        exact hq
  refine ⟨fun k q hq => ?_, fun i j x y hx hy hxy => ?_, fun k q hq => ?_⟩
  · rcases key k q hq with ⟨h1, h2⟩ | ⟨j, -, h2⟩
    · obtain ⟨g1, g2⟩ := apart k q h2 h1
      exact (hP k q h2).kept (hk q.1 g1 g2)
    · exact hP1 j q h2
  · rcases key i x hx with ⟨h1, h2⟩ | ⟨a, ha, h2⟩ <;> rcases key j y hy with ⟨h3, h4⟩ | ⟨b, hb, h4⟩
    · exact hD.1 i j x y h2 h4 hxy
    · exact absurd (by rw [hxy]; exact hD1.2 b y h4) (apart i x h2 h1).2
    · exact absurd (by rw [← hxy]; exact hD1.2 a x h2) (apart j y h4 h3).2
    · have hab := hD1.1 a b x y h2 h4 hxy
      subst hab
      exact Option.some.inj (ha.symm.trans hb)
  · rcases key k q hq with ⟨h1, h2⟩ | ⟨j, -, h2⟩
    · exact hD.2 k q h2
    · exact hF q.1 (hD1.2 j q h2)
theorem gq_VI {p : Program} {l : Launch} {e : Env} {R : Room} {s : State} {m : MethodId} {args : Array Value} {below : List Frame} {meth : Method} {c : Code} {H : Heap} {locs : List Loc} {cells slots : Nat} {Q : State → Prop} {A : Nat → Prop} {D : va_G} {kc : Nat → ClassId} {X pl : va_W} {cc : ByteArray} {nL : Nat} {Ts : List Cond} {own : String} {y : MethodName} {bytes : ByteArray} {maxL : Nat} {ret : Option FieldType} {wl : List Cond} {rm : Room} {n index : Nat} {As rest : List Value} {wc wc' X' : va_W} {pc : Nat} {ls : Array Slot} {st : List Value} {C : String} {b : Nat} {r : Int32} (S : CallFix p m c cc nL s args Ts own) (hN : gN s) (hK : va_K D vwCl (tyL kc) s) (hP : va_P D vwCl (X ++ pl) H) (hD : va_D A (X ++ pl)) (hS : va_S A s.heap H locs) (hA : ∀ q : Nat, s.heap.size ≤ q → A q) (hM : MI l y wl rm D kc (.ref b :: As) wc wc' r) (cw : CallW R s args own C index y bytes maxL ret wl rm 0 0 n) (isC : List Nat) (hcut : gCutS X wc wc' X' isC) (q0 ci : Nat) {q : vw_C} {fs : List Value} (he : X[q0]? = some (b, .inr (ci, fs))) (hc : vwCl[ci]? = some q) (hqC : q.1 = C) (hn : As.length = n) (hsize : ls.size = nL) (hst : st = As.reverse ++ .ref b :: rest) (hW : (rest.map fun v => v.category).sum ≤ 8) (hdg : decode cc pc = .ok (.invokevirtual index, 3)) (hf : cells + 0 ≤ R.cells ∧ slots + 0 ≤ R.slots)
    (kk : ∀ (H1 : Heap) (locs1 : List Loc), va_P D vwCl (X' ++ pl) H1 → va_D A (X' ++ pl) → va_S A s.heap H1 locs1 → W p l e R s m args below meth c H1 locs1 cells slots Q (F0 m (pc + 3) ls (.int r :: rest))) : W p l e R s m args below meth c H locs cells slots Q (F0 m pc ls st) := by
  have c2 := hcut.2.1
  simp only [Bool.and_eq_true] at c2
  have hPX := (pX_P hP).1
  have hDX := (pX_D hD).1
  have hPc : va_P D vwCl wc H := hPX.sub isC (fm_of_map _ _ _ hcut.1)
  have hDc : va_D A wc := hDX.sub isC c2.1 hcut.1
  have hFc := va_free (wc := wc) hDX hS hA isC hcut.1
  refine va_calli (va_runV (As := As) (rest := rest) S (hM H.size) cw ⟨gPre_blind _ _ _ _ _, hqC ▸ va_recv hK hPX hc he, fun U hU hW9 => ⟨rfl, by rw [hU], by rw [hU]; exact hPc, va_K.moved hW9.alike hK, hDc.weaken (fun _ _ _ _ => trivial), gN.warm hW9 hN⟩⟩ rfl hn hsize hst (lv_room hW) hdg hf) hS (fun q _ h => hFc q h) hFc (fun r' u t H1 locs1 ht hvm hw hB hz1 hk1 hS1 => ?_)
  obtain ⟨hP1, hK1, hD1⟩ := hB
  rw [ht] at hP1
  obtain ⟨hP3, hD3⟩ := gS_world hP hD hcut hk1 hFc hP1 hD1
  have hw : r' = r := hw
  rw [hw]
  exact kk H1 locs1 hP3 hD3 hS1
theorem gq_VZ {p : Program} {l : Launch} {e : Env} {R : Room} {s : State} {m : MethodId} {args : Array Value} {below : List Frame} {meth : Method} {c : Code} {H : Heap} {locs : List Loc} {cells slots : Nat} {Q : State → Prop} {A : Nat → Prop} {D : va_G} {kc : Nat → ClassId} {X pl : va_W} {cc : ByteArray} {nL : Nat} {Ts : List Cond} {own : String} {y : MethodName} {bytes : ByteArray} {maxL : Nat} {ret : Option FieldType} {wl : List Cond} {rm : Room} {n index : Nat} {As rest : List Value} {wc wc' X' : va_W} {pc : Nat} {ls : Array Slot} {st : List Value} {C : String} {b : Nat} {r : Int32} (S : CallFix p m c cc nL s args Ts own) (hN : gN s) (hK : va_K D vwCl (tyL kc) s) (hP : va_P D vwCl (X ++ pl) H) (hD : va_D A (X ++ pl)) (hS : va_S A s.heap H locs) (hA : ∀ q : Nat, s.heap.size ≤ q → A q) (hM : MZ l y wl rm D kc (.ref b :: As) wc wc' r) (cw : CallW R s args own C index y bytes maxL ret wl rm 0 0 n) (isC : List Nat) (hcut : gCutS X wc wc' X' isC) (q0 ci : Nat) {q : vw_C} {fs : List Value} (he : X[q0]? = some (b, .inr (ci, fs))) (hc : vwCl[ci]? = some q) (hqC : q.1 = C) (hn : As.length = n) (hsize : ls.size = nL) (hst : st = As.reverse ++ .ref b :: rest) (hW : (rest.map fun v => v.category).sum ≤ 8) (hdg : decode cc pc = .ok (.invokevirtual index, 3)) (hf : cells + 0 ≤ R.cells ∧ slots + 0 ≤ R.slots)
    (kk : ∀ (H1 : Heap) (locs1 : List Loc), (r = 0 ∨ r = 1) → va_P D vwCl (X' ++ pl) H1 → va_D A (X' ++ pl) → va_S A s.heap H1 locs1 → W p l e R s m args below meth c H1 locs1 cells slots Q (F0 m (pc + 3) ls (.int r :: rest))) : W p l e R s m args below meth c H locs cells slots Q (F0 m pc ls st) := by
  have c2 := hcut.2.1
  simp only [Bool.and_eq_true] at c2
  have hPX := (pX_P hP).1
  have hDX := (pX_D hD).1
  have hPc : va_P D vwCl wc H := hPX.sub isC (fm_of_map _ _ _ hcut.1)
  have hDc : va_D A wc := hDX.sub isC c2.1 hcut.1
  have hFc := va_free (wc := wc) hDX hS hA isC hcut.1
  refine va_calli (va_runV (As := As) (rest := rest) S (hM H.size) cw ⟨gPre_blind _ _ _ _ _, hqC ▸ va_recv hK hPX hc he, fun U hU hW9 => ⟨rfl, by rw [hU], by rw [hU]; exact hPc, va_K.moved hW9.alike hK, hDc.weaken (fun _ _ _ _ => trivial), gN.warm hW9 hN⟩⟩ rfl hn hsize hst (lv_room hW) hdg hf) hS (fun q _ h => hFc q h) hFc (fun r' u t H1 locs1 ht hvm hw hB hz1 hk1 hS1 => ?_)
  obtain ⟨hP1, hK1, hD1⟩ := hB
  rw [ht] at hP1
  obtain ⟨hP3, hD3⟩ := gS_world hP hD hcut hk1 hFc hP1 hD1
  have hw : r' = r ∧ (r = 0 ∨ r = 1) := hw
  rw [hw.1]
  exact kk H1 locs1 hw.2 hP3 hD3 hS1
theorem gq_VL {p : Program} {l : Launch} {e : Env} {R : Room} {s : State} {m : MethodId} {args : Array Value} {below : List Frame} {meth : Method} {c : Code} {H : Heap} {locs : List Loc} {cells slots : Nat} {Q : State → Prop} {A : Nat → Prop} {D : va_G} {kc : Nat → ClassId} {X pl : va_W} {cc : ByteArray} {nL : Nat} {Ts : List Cond} {own : String} {y : MethodName} {bytes : ByteArray} {maxL : Nat} {ret : Option FieldType} {wl : List Cond} {rm : Room} {n index : Nat} {As rest : List Value} {wc wc' X' : va_W} {pc : Nat} {ls : Array Slot} {st : List Value} {C : String} {b : Nat} {r : Int64} (S : CallFix p m c cc nL s args Ts own) (hN : gN s) (hK : va_K D vwCl (tyL kc) s) (hP : va_P D vwCl (X ++ pl) H) (hD : va_D A (X ++ pl)) (hS : va_S A s.heap H locs) (hA : ∀ q : Nat, s.heap.size ≤ q → A q) (hM : ML l y wl rm D kc (.ref b :: As) wc wc' r) (cw : CallW R s args own C index y bytes maxL ret wl rm 0 0 n) (isC : List Nat) (hcut : gCutS X wc wc' X' isC) (q0 ci : Nat) {q : vw_C} {fs : List Value} (he : X[q0]? = some (b, .inr (ci, fs))) (hc : vwCl[ci]? = some q) (hqC : q.1 = C) (hn : As.length = n) (hsize : ls.size = nL) (hst : st = As.reverse ++ .ref b :: rest) (hW : (rest.map fun v => v.category).sum ≤ 8) (hdg : decode cc pc = .ok (.invokevirtual index, 3)) (hf : cells + 0 ≤ R.cells ∧ slots + 0 ≤ R.slots)
    (kk : ∀ (H1 : Heap) (locs1 : List Loc), va_P D vwCl (X' ++ pl) H1 → va_D A (X' ++ pl) → va_S A s.heap H1 locs1 → W p l e R s m args below meth c H1 locs1 cells slots Q (F0 m (pc + 3) ls (.long r :: rest))) : W p l e R s m args below meth c H locs cells slots Q (F0 m pc ls st) := by
  have c2 := hcut.2.1
  simp only [Bool.and_eq_true] at c2
  have hPX := (pX_P hP).1
  have hDX := (pX_D hD).1
  have hPc : va_P D vwCl wc H := hPX.sub isC (fm_of_map _ _ _ hcut.1)
  have hDc : va_D A wc := hDX.sub isC c2.1 hcut.1
  have hFc := va_free (wc := wc) hDX hS hA isC hcut.1
  refine va_calll (va_runV (As := As) (rest := rest) S (hM H.size) cw ⟨gPre_blind _ _ _ _ _, hqC ▸ va_recv hK hPX hc he, fun U hU hW9 => ⟨rfl, by rw [hU], by rw [hU]; exact hPc, va_K.moved hW9.alike hK, hDc.weaken (fun _ _ _ _ => trivial), gN.warm hW9 hN⟩⟩ rfl hn hsize hst (lv_room hW) hdg hf) hS (fun q _ h => hFc q h) hFc (fun r' u t H1 locs1 ht hvm hw hB hz1 hk1 hS1 => ?_)
  obtain ⟨hP1, hK1, hD1⟩ := hB
  rw [ht] at hP1
  obtain ⟨hP3, hD3⟩ := gS_world hP hD hcut hk1 hFc hP1 hD1
  have hw : r' = r := hw
  rw [hw]
  exact kk H1 locs1 hP3 hD3 hS1
theorem gq_VV {p : Program} {l : Launch} {e : Env} {R : Room} {s : State} {m : MethodId} {args : Array Value} {below : List Frame} {meth : Method} {c : Code} {H : Heap} {locs : List Loc} {cells slots : Nat} {Q : State → Prop} {A : Nat → Prop} {D : va_G} {kc : Nat → ClassId} {X pl : va_W} {cc : ByteArray} {nL : Nat} {Ts : List Cond} {own : String} {y : MethodName} {bytes : ByteArray} {maxL : Nat} {ret : Option FieldType} {wl : List Cond} {rm : Room} {n index : Nat} {As rest : List Value} {wc wc' X' : va_W} {pc : Nat} {ls : Array Slot} {st : List Value} {C : String} {b : Nat} (S : CallFix p m c cc nL s args Ts own) (hN : gN s) (hK : va_K D vwCl (tyL kc) s) (hP : va_P D vwCl (X ++ pl) H) (hD : va_D A (X ++ pl)) (hS : va_S A s.heap H locs) (hA : ∀ q : Nat, s.heap.size ≤ q → A q) (hM : MV l y wl rm D kc (.ref b :: As) wc wc') (cw : CallW R s args own C index y bytes maxL ret wl rm 0 0 n) (isC : List Nat) (hcut : gCutS X wc wc' X' isC) (q0 ci : Nat) {q : vw_C} {fs : List Value} (he : X[q0]? = some (b, .inr (ci, fs))) (hc : vwCl[ci]? = some q) (hqC : q.1 = C) (hn : As.length = n) (hsize : ls.size = nL) (hst : st = As.reverse ++ .ref b :: rest) (hW : (rest.map fun v => v.category).sum ≤ 8) (hdg : decode cc pc = .ok (.invokevirtual index, 3)) (hf : cells + 0 ≤ R.cells ∧ slots + 0 ≤ R.slots)
    (kk : ∀ (H1 : Heap) (locs1 : List Loc), va_P D vwCl (X' ++ pl) H1 → va_D A (X' ++ pl) → va_S A s.heap H1 locs1 → W p l e R s m args below meth c H1 locs1 cells slots Q (F0 m (pc + 3) ls rest)) : W p l e R s m args below meth c H locs cells slots Q (F0 m pc ls st) := by
  have c2 := hcut.2.1
  simp only [Bool.and_eq_true] at c2
  have hPX := (pX_P hP).1
  have hDX := (pX_D hD).1
  have hPc : va_P D vwCl wc H := hPX.sub isC (fm_of_map _ _ _ hcut.1)
  have hDc : va_D A wc := hDX.sub isC c2.1 hcut.1
  have hFc := va_free (wc := wc) hDX hS hA isC hcut.1
  refine va_callv (va_runV (As := As) (rest := rest) S (hM H.size) cw ⟨gPre_blind _ _ _ _ _, hqC ▸ va_recv hK hPX hc he, fun U hU hW9 => ⟨rfl, by rw [hU], by rw [hU]; exact hPc, va_K.moved hW9.alike hK, hDc.weaken (fun _ _ _ _ => trivial), gN.warm hW9 hN⟩⟩ rfl hn hsize hst (lv_room hW) hdg hf) hS (fun q _ h => hFc q h) hFc (fun u t H1 locs1 ht hvm hw hB hz1 hk1 hS1 => ?_)
  obtain ⟨hP1, hK1, hD1⟩ := hB
  rw [ht] at hP1
  obtain ⟨hP3, hD3⟩ := gS_world hP hD hcut hk1 hFc hP1 hD1
  exact kk H1 locs1 hP3 hD3 hS1
theorem gq_VIs {p : Program} {l : Launch} {e : Env} {R : Room} {s : State} {m : MethodId} {args : Array Value} {below : List Frame} {meth : Method} {c : Code} {H : Heap} {locs : List Loc} {cells slots : Nat} {Q : State → Prop} {A : Nat → Prop} {D : va_G} {kc : Nat → ClassId} {X pl : va_W} {cc : ByteArray} {nL : Nat} {Ts : List Cond} {own : String} {y : MethodName} {bytes : ByteArray} {maxL : Nat} {ret : Option FieldType} {wl : List Cond} {rm : Room} {n index : Nat} {As rest : List Value} {wc wc' X' : va_W} {pc : Nat} {ls : Array Slot} {st : List Value} {C : String} {b : Nat} {adK adV : Nat → Nat} {r : Int32} (S : CallFix p m c cc nL s args Ts own) (hN : gN s) (hG : gS adK adV A s s.heap) (hK : va_K D vwCl (tyL kc) s) (hP : va_P D vwCl (X ++ pl) H) (hD : va_D A (X ++ pl)) (hS : va_S A s.heap H locs) (hA : ∀ q : Nat, s.heap.size ≤ q → A q) (hM : MIs l y wl rm D kc adK adV (.ref b :: As) wc wc' r) (cw : CallW R s args own C index y bytes maxL ret wl rm 0 0 n) (isC : List Nat) (hcut : gCutS X wc wc' X' isC) (q0 ci : Nat) {q : vw_C} {fs : List Value} (he : X[q0]? = some (b, .inr (ci, fs))) (hc : vwCl[ci]? = some q) (hqC : q.1 = C) (hn : As.length = n) (hsize : ls.size = nL) (hst : st = As.reverse ++ .ref b :: rest) (hW : (rest.map fun v => v.category).sum ≤ 8) (hdg : decode cc pc = .ok (.invokevirtual index, 3)) (hf : cells + 0 ≤ R.cells ∧ slots + 0 ≤ R.slots)
    (kk : ∀ (H1 : Heap) (locs1 : List Loc), va_P D vwCl (X' ++ pl) H1 → va_D A (X' ++ pl) → va_S A s.heap H1 locs1 → W p l e R s m args below meth c H1 locs1 cells slots Q (F0 m (pc + 3) ls (.int r :: rest))) : W p l e R s m args below meth c H locs cells slots Q (F0 m pc ls st) := by
  have c2 := hcut.2.1
  simp only [Bool.and_eq_true] at c2
  have hPX := (pX_P hP).1
  have hDX := (pX_D hD).1
  have hPc : va_P D vwCl wc H := hPX.sub isC (fm_of_map _ _ _ hcut.1)
  have hDc : va_D A wc := hDX.sub isC c2.1 hcut.1
  have hFc := va_free (wc := wc) hDX hS hA isC hcut.1
  refine va_calli (va_runV (As := As) (rest := rest) S (hM H.size) cw ⟨gPreS_blind _ _ _ _ _ _ _, hqC ▸ va_recv hK hPX hc he, fun U hU hW9 => ⟨rfl, ⟨by rw [hU], by rw [hU]; exact hPc, va_K.moved hW9.alike hK, hDc.weaken (fun _ _ _ _ => trivial), gN.warm hW9 hN⟩, hG.at hS hFc hU hW9⟩⟩ rfl hn hsize hst (lv_room hW) hdg hf) hS (fun q _ h => hFc q h) hFc (fun r' u t H1 locs1 ht hvm hw hB hz1 hk1 hS1 => ?_)
  obtain ⟨hP1, hK1, hD1⟩ := hB
  rw [ht] at hP1
  obtain ⟨hP3, hD3⟩ := gS_world hP hD hcut hk1 hFc hP1 hD1
  have hw : r' = r := hw
  rw [hw]
  exact kk H1 locs1 hP3 hD3 hS1
