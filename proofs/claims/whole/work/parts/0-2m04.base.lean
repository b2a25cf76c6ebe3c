abbrev tyL (kc : Nat → ClassId) : List (ClassId × FieldType) := [(kc 0, .byte), (kc 1, .int), (kc 2, .long), (kc 3, .boolean), (kc 4, .object RX6)]
abbrev nst_0 : Cond := .methodLinkNest RX0 76 yX8_power RX8
abbrev nst_1 : Cond := .methodLinkNest RX3 58 yX8_power RX8
/-- what is known of the links between nest mates -/
def gN (U : State) : Prop := va_Nw nst_0 U ∧ va_Nw nst_1 U
theorem gN.same {u U : State} (h : u.vm = U.vm) (hN : gN u) : gN U := ⟨va_Nw.same rfl h hN.1, va_Nw.same rfl h hN.2⟩
theorem gN.warm {s U : State} (hW : s.WarmedH U.vm) (hN : gN s) : gN U := ⟨va_Nw.warmM hW hN.1, va_Nw.warmM hW hN.2⟩
def gPre (D : va_G) (kc : Nat → ClassId) (ws : va_W) (sz : Nat) (U : State) : Prop := U.heap.size = sz ∧ va_P D vwCl ws U.heap ∧ va_K D vwCl (tyL kc) U ∧ va_D (fun _ => True) ws ∧ gN U
def gPost (D : va_G) (kc : Nat → ClassId) (A : Nat → Prop) (ws : va_W) (t : State) : Prop := va_P D vwCl ws t.heap ∧ va_K D vwCl (tyL kc) t ∧ va_D A ws
theorem gPre_blind (av : List Value) (D : va_G) (kc : Nat → ClassId) (ws : va_W) (sz : Nat) : FrameBlind (va_Pc av (gPre D kc ws sz)) := by
  intro a U g mk h
  obtain ⟨h0, h1, h2, h3, h4, h5⟩ := h
  exact ⟨h0, h1, h2, va_K.moved (u := U) (U := U.calling g mk a) (Vm.Alike.refl U.vm) h3, h4, gN.same (u := U) (U := U.calling g mk a) rfl h5⟩
/-- the contracts: no cell is made; the world ws becomes ws', the answer is r -/
def MI (l : Launch) (y : MethodName) (wl : List Cond) (rm : Room) (D : va_G) (kc : Nat → ClassId) (av : List Value) (ws ws' : va_W) (r : Int32) : Prop := ∀ sz : Nat, Met l y wl rm (va_Pc av (gPre D kc ws sz)) (va_Qi (fun (r' : Int32) (_ : Unit) => r' = r) (fun _ t => gPost D kc (va_A ws sz) ws' t) (va_A ws sz)) 0 0 (va_A ws sz)
def MZ (l : Launch) (y : MethodName) (wl : List Cond) (rm : Room) (D : va_G) (kc : Nat → ClassId) (av : List Value) (ws ws' : va_W) (r : Int32) : Prop := ∀ sz : Nat, Met l y wl rm (va_Pc av (gPre D kc ws sz)) (va_Qi (fun (r' : Int32) (_ : Unit) => r' = r ∧ (r = 0 ∨ r = 1)) (fun _ t => gPost D kc (va_A ws sz) ws' t) (va_A ws sz)) 0 0 (va_A ws sz)
def ML (l : Launch) (y : MethodName) (wl : List Cond) (rm : Room) (D : va_G) (kc : Nat → ClassId) (av : List Value) (ws ws' : va_W) (r : Int64) : Prop := ∀ sz : Nat, Met l y wl rm (va_Pc av (gPre D kc ws sz)) (va_Ql (fun (r' : Int64) (_ : Unit) => r' = r) (fun _ t => gPost D kc (va_A ws sz) ws' t) (va_A ws sz)) 0 0 (va_A ws sz)
def MV (l : Launch) (y : MethodName) (wl : List Cond) (rm : Room) (D : va_G) (kc : Nat → ClassId) (av : List Value) (ws ws' : va_W) : Prop := ∀ sz : Nat, Met l y wl rm (va_Pc av (gPre D kc ws sz)) (va_Qv (fun (_ : Unit) => True) (fun _ t => gPost D kc (va_A ws sz) ws' t) (va_A ws sz)) 0 0 (va_A ws sz)
theorem gz_narrow {r : Int32} (h : r = 0 ∨ r = 1) : narrow .boolean (.int r) = .int r := by rcases h with rfl | rfl <;> rfl
theorem gM_I {l : Launch} {y : MethodName} {wl wl' : List Cond} {rm : Room} {D : va_G} {kc : Nat → ClassId} {av : List Value} {ws ws' : va_W} {r : Int32} {cc : ByteArray} {maxL : Nat} (hy : plainName y.cls = true) (hw : wl = Cond.code y cc maxL (some .int) :: wl') (hlen : (lg_sl av).length ≤ maxL)
    (body : ∀ (p : Program) (e : Env) (s : State) (m : MethodId) (below : List Frame) (meth : Method) (c : Code) (A : Nat → Prop) (ls : Array Slot) (Q : State → Prop), p.tables.exec = Jvm.exec → c.code = cc → c.maxLocals = maxL → s.vm.findClass y.cls = some m.cls → (∀ w ∈ wl, w.before av.toArray s = true) → gN s → va_K D vwCl (tyL kc) s → va_P D vwCl ws s.heap → va_D A ws → (∀ q : Nat, s.heap.size ≤ q → A q) → lv_has ls maxL (lv_args 0 av) →
      (∀ (H : Heap) (locs : List Loc) (pc : Nat) (ls : Array Slot), va_P D vwCl ws' H → va_D A ws' → va_S A s.heap H locs → decode cc pc = .ok (.ireturn, 1) → W p l e rm s m av.toArray below meth c H locs 0 0 Q (F0 m pc ls [.int r])) →
      W p l e rm s m av.toArray below meth c s.heap [] 0 0 Q (F0 m 0 ls [])) : MI l y wl rm D kc av ws ws' r := by
  intro sz
  refine Met.ofW (cc := cc) (maxL := maxL) (ret := (some .int)) hy hw ?_
  intro p e s m args below meth c s₁ B hml hv
  obtain ⟨rfl, hsz, hP, hK, hD0, hN⟩ := hv
  have hr := B.returns
  have hlocks := B.notSynchronized
  subst hsz
  have hl := lv_entry av (n := maxL) hlen
  rw [lg_entry_eq]
  generalize (lg_sl av ++ List.replicate (maxL - (lg_sl av).length) Slot.unset).toArray = ls at hl ⊢
  refine body p e s m below meth c (va_A ws s.heap.size) ls _ B.exec B.bytes hml (findClass_of_methodNamed B.named) (atoms_spec (ws := wl) B.pre) hN hK hP hD0.self (fun q h => Or.inr h) hl ?_
  intro H locs pc ls hP9 hD9 hS9 hd
  exact W.iret (v := r) B.exec B.bytes hr (fun t ht hW => ⟨⟨r, (), rfl, rfl, by rw [ht]; exact hP9, va_K.moved hW.alike hK, hD9⟩, hS9.F ht⟩) hS9.2.2 hd hlocks
theorem gM_Z {l : Launch} {y : MethodName} {wl wl' : List Cond} {rm : Room} {D : va_G} {kc : Nat → ClassId} {av : List Value} {ws ws' : va_W} {r : Int32} {cc : ByteArray} {maxL : Nat} (hy : plainName y.cls = true) (hw : wl = Cond.code y cc maxL (some .boolean) :: wl') (hlen : (lg_sl av).length ≤ maxL)
    (body : ∀ (p : Program) (e : Env) (s : State) (m : MethodId) (below : List Frame) (meth : Method) (c : Code) (A : Nat → Prop) (ls : Array Slot) (Q : State → Prop), p.tables.exec = Jvm.exec → c.code = cc → c.maxLocals = maxL → s.vm.findClass y.cls = some m.cls → (∀ w ∈ wl, w.before av.toArray s = true) → gN s → va_K D vwCl (tyL kc) s → va_P D vwCl ws s.heap → va_D A ws → (∀ q : Nat, s.heap.size ≤ q → A q) → lv_has ls maxL (lv_args 0 av) →
      (∀ (H : Heap) (locs : List Loc) (pc : Nat) (ls : Array Slot), (r = 0 ∨ r = 1) → va_P D vwCl ws' H → va_D A ws' → va_S A s.heap H locs → decode cc pc = .ok (.ireturn, 1) → W p l e rm s m av.toArray below meth c H locs 0 0 Q (F0 m pc ls [.int r])) →
      W p l e rm s m av.toArray below meth c s.heap [] 0 0 Q (F0 m 0 ls [])) : MZ l y wl rm D kc av ws ws' r := by
  intro sz
  refine Met.ofW (cc := cc) (maxL := maxL) (ret := (some .boolean)) hy hw ?_
  intro p e s m args below meth c s₁ B hml hv
  obtain ⟨rfl, hsz, hP, hK, hD0, hN⟩ := hv
  have hr := B.returns
  have hlocks := B.notSynchronized
  subst hsz
  have hl := lv_entry av (n := maxL) hlen
  rw [lg_entry_eq]
  generalize (lg_sl av ++ List.replicate (maxL - (lg_sl av).length) Slot.unset).toArray = ls at hl ⊢
  refine body p e s m below meth c (va_A ws s.heap.size) ls _ B.exec B.bytes hml (findClass_of_methodNamed B.named) (atoms_spec (ws := wl) B.pre) hN hK hP hD0.self (fun q h => Or.inr h) hl ?_
  intro H locs pc ls hz hP9 hD9 hS9 hd
  exact W.zret (v := r) B.exec B.bytes hr (gz_narrow hz) (fun t ht hW => ⟨⟨r, (), rfl, ⟨rfl, hz⟩, by rw [ht]; exact hP9, va_K.moved hW.alike hK, hD9⟩, hS9.F ht⟩) hS9.2.2 hd hlocks
theorem gM_L {l : Launch} {y : MethodName} {wl wl' : List Cond} {rm : Room} {D : va_G} {kc : Nat → ClassId} {av : List Value} {ws ws' : va_W} {r : Int64} {cc : ByteArray} {maxL : Nat} (hy : plainName y.cls = true) (hw : wl = Cond.code y cc maxL (some .long) :: wl') (hlen : (lg_sl av).length ≤ maxL)
    (body : ∀ (p : Program) (e : Env) (s : State) (m : MethodId) (below : List Frame) (meth : Method) (c : Code) (A : Nat → Prop) (ls : Array Slot) (Q : State → Prop), p.tables.exec = Jvm.exec → c.code = cc → c.maxLocals = maxL → s.vm.findClass y.cls = some m.cls → (∀ w ∈ wl, w.before av.toArray s = true) → gN s → va_K D vwCl (tyL kc) s → va_P D vwCl ws s.heap → va_D A ws → (∀ q : Nat, s.heap.size ≤ q → A q) → lv_has ls maxL (lv_args 0 av) →
      (∀ (H : Heap) (locs : List Loc) (pc : Nat) (ls : Array Slot), va_P D vwCl ws' H → va_D A ws' → va_S A s.heap H locs → decode cc pc = .ok (.lreturn, 1) → W p l e rm s m av.toArray below meth c H locs 0 0 Q (F0 m pc ls [.long r])) →
      W p l e rm s m av.toArray below meth c s.heap [] 0 0 Q (F0 m 0 ls [])) : ML l y wl rm D kc av ws ws' r := by
  intro sz
  refine Met.ofW (cc := cc) (maxL := maxL) (ret := (some .long)) hy hw ?_
  intro p e s m args below meth c s₁ B hml hv
  obtain ⟨rfl, hsz, hP, hK, hD0, hN⟩ := hv
  have hr := B.returns
  have hlocks := B.notSynchronized
  subst hsz
  have hl := lv_entry av (n := maxL) hlen
  rw [lg_entry_eq]
  generalize (lg_sl av ++ List.replicate (maxL - (lg_sl av).length) Slot.unset).toArray = ls at hl ⊢
  refine body p e s m below meth c (va_A ws s.heap.size) ls _ B.exec B.bytes hml (findClass_of_methodNamed B.named) (atoms_spec (ws := wl) B.pre) hN hK hP hD0.self (fun q h => Or.inr h) hl ?_
  intro H locs pc ls hP9 hD9 hS9 hd
  exact W.lret (v := r) B.exec B.bytes hr (fun t ht hW => ⟨⟨r, (), rfl, rfl, by rw [ht]; exact hP9, va_K.moved hW.alike hK, hD9⟩, hS9.F ht⟩) hS9.2.2 hd hlocks
theorem gM_V {l : Launch} {y : MethodName} {wl wl' : List Cond} {rm : Room} {D : va_G} {kc : Nat → ClassId} {av : List Value} {ws ws' : va_W} {cc : ByteArray} {maxL : Nat} (hy : plainName y.cls = true) (hw : wl = Cond.code y cc maxL none :: wl') (hlen : (lg_sl av).length ≤ maxL)
    (body : ∀ (p : Program) (e : Env) (s : State) (m : MethodId) (below : List Frame) (meth : Method) (c : Code) (A : Nat → Prop) (ls : Array Slot) (Q : State → Prop), p.tables.exec = Jvm.exec → c.code = cc → c.maxLocals = maxL → s.vm.findClass y.cls = some m.cls → (∀ w ∈ wl, w.before av.toArray s = true) → gN s → va_K D vwCl (tyL kc) s → va_P D vwCl ws s.heap → va_D A ws → (∀ q : Nat, s.heap.size ≤ q → A q) → lv_has ls maxL (lv_args 0 av) →
      (∀ (H : Heap) (locs : List Loc) (pc : Nat) (ls : Array Slot), va_P D vwCl ws' H → va_D A ws' → va_S A s.heap H locs → decode cc pc = .ok (.return_, 1) → W p l e rm s m av.toArray below meth c H locs 0 0 Q (F0 m pc ls [])) →
      W p l e rm s m av.toArray below meth c s.heap [] 0 0 Q (F0 m 0 ls [])) : MV l y wl rm D kc av ws ws' := by
  intro sz
  refine Met.ofW (cc := cc) (maxL := maxL) (ret := none) hy hw ?_
  intro p e s m args below meth c s₁ B hml hv
  obtain ⟨rfl, hsz, hP, hK, hD0, hN⟩ := hv
  have hr := B.returns
  have hlocks := B.notSynchronized
  subst hsz
  have hl := lv_entry av (n := maxL) hlen
  rw [lg_entry_eq]
  generalize (lg_sl av ++ List.replicate (maxL - (lg_sl av).length) Slot.unset).toArray = ls at hl ⊢
  refine body p e s m below meth c (va_A ws s.heap.size) ls _ B.exec B.bytes hml (findClass_of_methodNamed B.named) (atoms_spec (ws := wl) B.pre) hN hK hP hD0.self (fun q h => Or.inr h) hl ?_
  intro H locs pc ls hP9 hD9 hS9 hd
  exact W.vret B.exec B.bytes hr (fun t ht hW => ⟨⟨(), rfl, trivial, by rw [ht]; exact hP9, va_K.moved hW.alike hK, hD9⟩, hS9.F ht⟩) hS9.2.2 hd hlocks
theorem fm_of_map {α β : Type} (f : α → Option β) : ∀ (l : List α) (w : List β), l.map f = w.map some → l.filterMap f = w
  | [], [], _ => rfl
  | [], _ :: _, h => by cases h
  | _ :: _, [], h => by cases h
  | a :: l, b :: w, h => by
    rw [List.map_cons, List.map_cons] at h
    injection h with h1 h2
    rw [List.filterMap_cons, h1, fm_of_map f l w h2]
/-- the callee's cells wc at the places isC of the world ws, the rest at isR; behind the call wc is wc', the world (by the places pm of the rest ++ wc') is ws' -/
def gCut (ws wc wc' ws' : va_W) (isC isR pm : List Nat) : Prop := isC.map (fun i => ws[i]?) = wc.map some ∧ isR.map (fun i => ws[i]?) = (isR.filterMap (fun i => ws[i]?)).map some ∧ (va_nd isC && va_nd isR && va_nd pm && isR.all (fun i => !isC.contains i)) = true ∧ pm.map (fun i => (isR.filterMap (fun i => ws[i]?) ++ wc')[i]?) = ws'.map some
theorem g_world {A : Nat → Prop} {D : va_G} {ws wc wc' ws' : va_W} {H H1 : Heap} {isC isR pm : List Nat} (hP : va_P D vwCl ws H) (hD : va_D A ws) (hcut : gCut ws wc wc' ws' isC isR pm)
    (hk : ∀ q : Nat, q < H.size → ¬ va_A wc H.size q → H1[q]? = H[q]?) (hF : ∀ q, va_A wc H.size q → A q) (hP1 : va_P D vwCl wc' H1) (hD1 : va_D (va_A wc H.size) wc') : va_P D vwCl ws' H1 ∧ va_D A ws' := by
  obtain ⟨h1, h2, h3, h4⟩ := hcut
  simp only [Bool.and_eq_true] at h3
  obtain ⟨⟨⟨n1, n2⟩, n3⟩, n4⟩ := h3
  obtain ⟨a, b⟩ := va_join hP hD isC isR h1 h2 n2 (fun i hi hc => by
    have := List.all_eq_true.mp n4 i hi
    simp at this
    exact this hc) hk hF hP1 hD1
  exact ⟨a.sub pm (fm_of_map _ _ _ h4), b.sub pm n3 h4⟩
theorem g_VI {p : Program} {l : Launch} {e : Env} {R : Room} {s : State} {m : MethodId} {args : Array Value} {below : List Frame} {meth : Method} {c : Code} {H : Heap} {locs : List Loc} {cells slots : Nat} {Q : State → Prop} {A : Nat → Prop} {H0 : Heap} {D : va_G} {kc : Nat → ClassId} {ws : va_W} {cc : ByteArray} {nL : Nat} {Ts : List Cond} {own : String} {y : MethodName} {bytes : ByteArray} {maxL : Nat} {ret : Option FieldType} {wl : List Cond} {rm : Room} {n index : Nat} {As rest : List Value} {wc wc' ws' : va_W} {pc : Nat} {ls : Array Slot} {st : List Value} {C : String} {b : Nat} {r : Int32} (S : CallFix p m c cc nL s args Ts own) (hN : gN s) (hK : va_K D vwCl (tyL kc) s) (hP : va_P D vwCl ws H) (hD : va_D A ws) (hS : va_S A H0 H locs) (hA : ∀ q : Nat, H0.size ≤ q → A q) (hM : MI l y wl rm D kc (.ref b :: As) wc wc' r) (cw : CallW R s args own C index y bytes maxL ret wl rm 0 0 n) (isC isR pm : List Nat) (hcut : gCut ws wc wc' ws' isC isR pm) (q0 ci : Nat) {q : vw_C} {fs : List Value} (he : ws[q0]? = some (b, .inr (ci, fs))) (hc : vwCl[ci]? = some q) (hqC : q.1 = C) (hn : As.length = n) (hsize : ls.size = nL) (hst : st = As.reverse ++ .ref b :: rest) (hW : (rest.map fun v => v.category).sum ≤ 8) (hdg : decode cc pc = .ok (.invokevirtual index, 3)) (hf : cells + 0 ≤ R.cells ∧ slots + 0 ≤ R.slots)
    (kk : ∀ (H1 : Heap) (locs1 : List Loc), va_P D vwCl ws' H1 → va_D A ws' → va_S A H0 H1 locs1 → W p l e R s m args below meth c H1 locs1 cells slots Q (F0 m (pc + 3) ls (.int r :: rest))) : W p l e R s m args below meth c H locs cells slots Q (F0 m pc ls st) := by
  have h3 := hcut.2.2.1
  simp only [Bool.and_eq_true] at h3
  have hPc : va_P D vwCl wc H := hP.sub isC (fm_of_map _ _ _ hcut.1)
  have hDc : va_D A wc := hD.sub isC h3.1.1.1 hcut.1
  have hFc := va_free (wc := wc) hD hS hA isC hcut.1
  refine va_calli (va_runV (As := As) (rest := rest) S (hM H.size) cw ⟨gPre_blind _ _ _ _ _, hqC ▸ va_recv hK hP hc he, fun U hU hW9 => ⟨rfl, by rw [hU], by rw [hU]; exact hPc, va_K.moved hW9.alike hK, hDc.weaken (fun _ _ _ _ => trivial), gN.warm hW9 hN⟩⟩ rfl hn hsize hst (lv_room hW) hdg hf) hS (fun q _ h => hFc q h) hFc (fun r' u t H1 locs1 ht hvm hw hB hz1 hk1 hS1 => ?_)
  obtain ⟨hP1, hK1, hD1⟩ := hB
  rw [ht] at hP1
  obtain ⟨hP2, hD2⟩ := g_world hP hD hcut hk1 hFc hP1 hD1
  have hw : r' = r := hw
  rw [hw]
  exact kk H1 locs1 hP2 hD2 hS1
theorem g_SI {p : Program} {l : Launch} {e : Env} {R : Room} {s : State} {m : MethodId} {args : Array Value} {below : List Frame} {meth : Method} {c : Code} {H : Heap} {locs : List Loc} {cells slots : Nat} {Q : State → Prop} {A : Nat → Prop} {H0 : Heap} {D : va_G} {kc : Nat → ClassId} {ws : va_W} {cc : ByteArray} {nL : Nat} {Ts : List Cond} {own : String} {y : MethodName} {bytes : ByteArray} {maxL : Nat} {ret : Option FieldType} {wl : List Cond} {rm : Room} {n index : Nat} {As rest : List Value} {wc wc' ws' : va_W} {pc : Nat} {ls : Array Slot} {st : List Value} {r : Int32} (S : CallFix p m c cc nL s args Ts own) (hN : gN s) (hK : va_K D vwCl (tyL kc) s) (hP : va_P D vwCl ws H) (hD : va_D A ws) (hS : va_S A H0 H locs) (hA : ∀ q : Nat, H0.size ≤ q → A q) (hM : MI l y wl rm D kc As wc wc' r) (cw : CallB R s args own index y bytes maxL ret wl rm 0 0 n ∧ (Cond.static y).before args s = true) (isC isR pm : List Nat) (hcut : gCut ws wc wc' ws' isC isR pm) (hn : As.length = n) (hsize : ls.size = nL) (hst : st = As.reverse ++ rest) (hW : (rest.map fun v => v.category).sum ≤ 8) (hdg : decode cc pc = .ok (.invokestatic index, 3)) (hf : cells + 0 ≤ R.cells ∧ slots + 0 ≤ R.slots)
    (kk : ∀ (H1 : Heap) (locs1 : List Loc), va_P D vwCl ws' H1 → va_D A ws' → va_S A H0 H1 locs1 → W p l e R s m args below meth c H1 locs1 cells slots Q (F0 m (pc + 3) ls (.int r :: rest))) : W p l e R s m args below meth c H locs cells slots Q (F0 m pc ls st) := by
  have h3 := hcut.2.2.1
  simp only [Bool.and_eq_true] at h3
  have hPc : va_P D vwCl wc H := hP.sub isC (fm_of_map _ _ _ hcut.1)
  have hDc : va_D A wc := hD.sub isC h3.1.1.1 hcut.1
  have hFc := va_free (wc := wc) hD hS hA isC hcut.1
  refine va_calli (va_runS (As := As) (rest := rest) S (hM H.size) cw ⟨gPre_blind _ _ _ _ _, fun U hU hW9 => ⟨rfl, by rw [hU], by rw [hU]; exact hPc, va_K.moved hW9.alike hK, hDc.weaken (fun _ _ _ _ => trivial), gN.warm hW9 hN⟩⟩ rfl hn hsize hst (lv_room hW) hdg hf) hS (fun q _ h => hFc q h) hFc (fun r' u t H1 locs1 ht hvm hw hB hz1 hk1 hS1 => ?_)
  obtain ⟨hP1, hK1, hD1⟩ := hB
  rw [ht] at hP1
  obtain ⟨hP2, hD2⟩ := g_world hP hD hcut hk1 hFc hP1 hD1
  have hw : r' = r := hw
  rw [hw]
  exact kk H1 locs1 hP2 hD2 hS1
theorem g_NI {p : Program} {l : Launch} {e : Env} {R : Room} {s : State} {m : MethodId} {args : Array Value} {below : List Frame} {meth : Method} {c : Code} {H : Heap} {locs : List Loc} {cells slots : Nat} {Q : State → Prop} {A : Nat → Prop} {H0 : Heap} {D : va_G} {kc : Nat → ClassId} {ws : va_W} {cc : ByteArray} {nL : Nat} {Ts : List Cond} {own : String} {y : MethodName} {bytes : ByteArray} {maxL : Nat} {ret : Option FieldType} {wl : List Cond} {rm : Room} {n index : Nat} {As rest : List Value} {wc wc' ws' : va_W} {pc : Nat} {ls : Array Slot} {st : List Value} {host : String} {r : Int32} (S : CallFix p m c cc nL s args Ts own) (hN : gN s) (hK : va_K D vwCl (tyL kc) s) (hP : va_P D vwCl ws H) (hD : va_D A ws) (hS : va_S A H0 H locs) (hA : ∀ q : Nat, H0.size ≤ q → A q) (hM : MI l y wl rm D kc As wc wc' r) (cw : va_CN R s args own index y host bytes maxL ret wl rm 0 0 n ∧ (Cond.static y).before args s = true ∧ True) (isC isR pm : List Nat) (hcut : gCut ws wc wc' ws' isC isR pm) (hn : As.length = n) (hsize : ls.size = nL) (hst : st = As.reverse ++ rest) (hW : (rest.map fun v => v.category).sum ≤ 8) (hdg : decode cc pc = .ok (.invokestatic index, 3)) (hf : cells + 0 ≤ R.cells ∧ slots + 0 ≤ R.slots)
    (kk : ∀ (H1 : Heap) (locs1 : List Loc), va_P D vwCl ws' H1 → va_D A ws' → va_S A H0 H1 locs1 → W p l e R s m args below meth c H1 locs1 cells slots Q (F0 m (pc + 3) ls (.int r :: rest))) : W p l e R s m args below meth c H locs cells slots Q (F0 m pc ls st) := by
  have h3 := hcut.2.2.1
  simp only [Bool.and_eq_true] at h3
  have hPc : va_P D vwCl wc H := hP.sub isC (fm_of_map _ _ _ hcut.1)
  have hDc : va_D A wc := hD.sub isC h3.1.1.1 hcut.1
  have hFc := va_free (wc := wc) hD hS hA isC hcut.1
  refine va_calli (va_runSN (As := As) (rest := rest) S (hM H.size) cw ⟨gPre_blind _ _ _ _ _, fun U hU hW9 => ⟨rfl, by rw [hU], by rw [hU]; exact hPc, va_K.moved hW9.alike hK, hDc.weaken (fun _ _ _ _ => trivial), gN.warm hW9 hN⟩⟩ rfl hn hsize hst (lv_room hW) hdg hf) hS (fun q _ h => hFc q h) hFc (fun r' u t H1 locs1 ht hvm hw hB hz1 hk1 hS1 => ?_)
  obtain ⟨hP1, hK1, hD1⟩ := hB
  rw [ht] at hP1
  obtain ⟨hP2, hD2⟩ := g_world hP hD hcut hk1 hFc hP1 hD1
  have hw : r' = r := hw
  rw [hw]
  exact kk H1 locs1 hP2 hD2 hS1
theorem g_VZ {p : Program} {l : Launch} {e : Env} {R : Room} {s : State} {m : MethodId} {args : Array Value} {below : List Frame} {meth : Method} {c : Code} {H : Heap} {locs : List Loc} {cells slots : Nat} {Q : State → Prop} {A : Nat → Prop} {H0 : Heap} {D : va_G} {kc : Nat → ClassId} {ws : va_W} {cc : ByteArray} {nL : Nat} {Ts : List Cond} {own : String} {y : MethodName} {bytes : ByteArray} {maxL : Nat} {ret : Option FieldType} {wl : List Cond} {rm : Room} {n index : Nat} {As rest : List Value} {wc wc' ws' : va_W} {pc : Nat} {ls : Array Slot} {st : List Value} {C : String} {b : Nat} {r : Int32} (S : CallFix p m c cc nL s args Ts own) (hN : gN s) (hK : va_K D vwCl (tyL kc) s) (hP : va_P D vwCl ws H) (hD : va_D A ws) (hS : va_S A H0 H locs) (hA : ∀ q : Nat, H0.size ≤ q → A q) (hM : MZ l y wl rm D kc (.ref b :: As) wc wc' r) (cw : CallW R s args own C index y bytes maxL ret wl rm 0 0 n) (isC isR pm : List Nat) (hcut : gCut ws wc wc' ws' isC isR pm) (q0 ci : Nat) {q : vw_C} {fs : List Value} (he : ws[q0]? = some (b, .inr (ci, fs))) (hc : vwCl[ci]? = some q) (hqC : q.1 = C) (hn : As.length = n) (hsize : ls.size = nL) (hst : st = As.reverse ++ .ref b :: rest) (hW : (rest.map fun v => v.category).sum ≤ 8) (hdg : decode cc pc = .ok (.invokevirtual index, 3)) (hf : cells + 0 ≤ R.cells ∧ slots + 0 ≤ R.slots)
    (kk : ∀ (H1 : Heap) (locs1 : List Loc), (r = 0 ∨ r = 1) → va_P D vwCl ws' H1 → va_D A ws' → va_S A H0 H1 locs1 → W p l e R s m args below meth c H1 locs1 cells slots Q (F0 m (pc + 3) ls (.int r :: rest))) : W p l e R s m args below meth c H locs cells slots Q (F0 m pc ls st) := by
  have h3 := hcut.2.2.1
  simp only [Bool.and_eq_true] at h3
  have hPc : va_P D vwCl wc H := hP.sub isC (fm_of_map _ _ _ hcut.1)
  have hDc : va_D A wc := hD.sub isC h3.1.1.1 hcut.1
  have hFc := va_free (wc := wc) hD hS hA isC hcut.1
  refine va_calli (va_runV (As := As) (rest := rest) S (hM H.size) cw ⟨gPre_blind _ _ _ _ _, hqC ▸ va_recv hK hP hc he, fun U hU hW9 => ⟨rfl, by rw [hU], by rw [hU]; exact hPc, va_K.moved hW9.alike hK, hDc.weaken (fun _ _ _ _ => trivial), gN.warm hW9 hN⟩⟩ rfl hn hsize hst (lv_room hW) hdg hf) hS (fun q _ h => hFc q h) hFc (fun r' u t H1 locs1 ht hvm hw hB hz1 hk1 hS1 => ?_)
  obtain ⟨hP1, hK1, hD1⟩ := hB
  rw [ht] at hP1
  obtain ⟨hP2, hD2⟩ := g_world hP hD hcut hk1 hFc hP1 hD1
  have hw : r' = r ∧ (r = 0 ∨ r = 1) := hw
  rw [hw.1]
  exact kk H1 locs1 hw.2 hP2 hD2 hS1
theorem g_SZ {p : Program} {l : Launch} {e : Env} {R : Room} {s : State} {m : MethodId} {args : Array Value} {below : List Frame} {meth : Method} {c : Code} {H : Heap} {locs : List Loc} {cells slots : Nat} {Q : State → Prop} {A : Nat → Prop} {H0 : Heap} {D : va_G} {kc : Nat → ClassId} {ws : va_W} {cc : ByteArray} {nL : Nat} {Ts : List Cond} {own : String} {y : MethodName} {bytes : ByteArray} {maxL : Nat} {ret : Option FieldType} {wl : List Cond} {rm : Room} {n index : Nat} {As rest : List Value} {wc wc' ws' : va_W} {pc : Nat} {ls : Array Slot} {st : List Value} {r : Int32} (S : CallFix p m c cc nL s args Ts own) (hN : gN s) (hK : va_K D vwCl (tyL kc) s) (hP : va_P D vwCl ws H) (hD : va_D A ws) (hS : va_S A H0 H locs) (hA : ∀ q : Nat, H0.size ≤ q → A q) (hM : MZ l y wl rm D kc As wc wc' r) (cw : CallB R s args own index y bytes maxL ret wl rm 0 0 n ∧ (Cond.static y).before args s = true) (isC isR pm : List Nat) (hcut : gCut ws wc wc' ws' isC isR pm) (hn : As.length = n) (hsize : ls.size = nL) (hst : st = As.reverse ++ rest) (hW : (rest.map fun v => v.category).sum ≤ 8) (hdg : decode cc pc = .ok (.invokestatic index, 3)) (hf : cells + 0 ≤ R.cells ∧ slots + 0 ≤ R.slots)
    (kk : ∀ (H1 : Heap) (locs1 : List Loc), (r = 0 ∨ r = 1) → va_P D vwCl ws' H1 → va_D A ws' → va_S A H0 H1 locs1 → W p l e R s m args below meth c H1 locs1 cells slots Q (F0 m (pc + 3) ls (.int r :: rest))) : W p l e R s m args below meth c H locs cells slots Q (F0 m pc ls st) := by
  have h3 := hcut.2.2.1
  simp only [Bool.and_eq_true] at h3
  have hPc : va_P D vwCl wc H := hP.sub isC (fm_of_map _ _ _ hcut.1)
  have hDc : va_D A wc := hD.sub isC h3.1.1.1 hcut.1
  have hFc := va_free (wc := wc) hD hS hA isC hcut.1
  refine va_calli (va_runS (As := As) (rest := rest) S (hM H.size) cw ⟨gPre_blind _ _ _ _ _, fun U hU hW9 => ⟨rfl, by rw [hU], by rw [hU]; exact hPc, va_K.moved hW9.alike hK, hDc.weaken (fun _ _ _ _ => trivial), gN.warm hW9 hN⟩⟩ rfl hn hsize hst (lv_room hW) hdg hf) hS (fun q _ h => hFc q h) hFc (fun r' u t H1 locs1 ht hvm hw hB hz1 hk1 hS1 => ?_)
  obtain ⟨hP1, hK1, hD1⟩ := hB
  rw [ht] at hP1
  obtain ⟨hP2, hD2⟩ := g_world hP hD hcut hk1 hFc hP1 hD1
  have hw : r' = r ∧ (r = 0 ∨ r = 1) := hw
  rw [hw.1]
  exact kk H1 locs1 hw.2 hP2 hD2 hS1
theorem g_NZ {p : Program} {l : Launch} {e : Env} {R : Room} {s : State} {m : MethodId} {args : Array Value} {below : List Frame} {meth : Method} {c : Code} {H : Heap} {locs : List Loc} {cells slots : Nat} {Q : State → Prop} {A : Nat → Prop} {H0 : Heap} {D : va_G} {kc : Nat → ClassId} {ws : va_W} {cc : ByteArray} {nL : Nat} {Ts : List Cond} {own : String} {y : MethodName} {bytes : ByteArray} {maxL : Nat} {ret : Option FieldType} {wl : List Cond} {rm : Room} {n index : Nat} {As rest : List Value} {wc wc' ws' : va_W} {pc : Nat} {ls : Array Slot} {st : List Value} {host : String} {r : Int32} (S : CallFix p m c cc nL s args Ts own) (hN : gN s) (hK : va_K D vwCl (tyL kc) s) (hP : va_P D vwCl ws H) (hD : va_D A ws) (hS : va_S A H0 H locs) (hA : ∀ q : Nat, H0.size ≤ q → A q) (hM : MZ l y wl rm D kc As wc wc' r) (cw : va_CN R s args own index y host bytes maxL ret wl rm 0 0 n ∧ (Cond.static y).before args s = true ∧ True) (isC isR pm : List Nat) (hcut : gCut ws wc wc' ws' isC isR pm) (hn : As.length = n) (hsize : ls.size = nL) (hst : st = As.reverse ++ rest) (hW : (rest.map fun v => v.category).sum ≤ 8) (hdg : decode cc pc = .ok (.invokestatic index, 3)) (hf : cells + 0 ≤ R.cells ∧ slots + 0 ≤ R.slots)
    (kk : ∀ (H1 : Heap) (locs1 : List Loc), (r = 0 ∨ r = 1) → va_P D vwCl ws' H1 → va_D A ws' → va_S A H0 H1 locs1 → W p l e R s m args below meth c H1 locs1 cells slots Q (F0 m (pc + 3) ls (.int r :: rest))) : W p l e R s m args below meth c H locs cells slots Q (F0 m pc ls st) := by
  have h3 := hcut.2.2.1
  simp only [Bool.and_eq_true] at h3
  have hPc : va_P D vwCl wc H := hP.sub isC (fm_of_map _ _ _ hcut.1)
  have hDc : va_D A wc := hD.sub isC h3.1.1.1 hcut.1
  have hFc := va_free (wc := wc) hD hS hA isC hcut.1
  refine va_calli (va_runSN (As := As) (rest := rest) S (hM H.size) cw ⟨gPre_blind _ _ _ _ _, fun U hU hW9 => ⟨rfl, by rw [hU], by rw [hU]; exact hPc, va_K.moved hW9.alike hK, hDc.weaken (fun _ _ _ _ => trivial), gN.warm hW9 hN⟩⟩ rfl hn hsize hst (lv_room hW) hdg hf) hS (fun q _ h => hFc q h) hFc (fun r' u t H1 locs1 ht hvm hw hB hz1 hk1 hS1 => ?_)
  obtain ⟨hP1, hK1, hD1⟩ := hB
  rw [ht] at hP1
  obtain ⟨hP2, hD2⟩ := g_world hP hD hcut hk1 hFc hP1 hD1
  have hw : r' = r ∧ (r = 0 ∨ r = 1) := hw
  rw [hw.1]
  exact kk H1 locs1 hw.2 hP2 hD2 hS1
theorem g_VL {p : Program} {l : Launch} {e : Env} {R : Room} {s : State} {m : MethodId} {args : Array Value} {below : List Frame} {meth : Method} {c : Code} {H : Heap} {locs : List Loc} {cells slots : Nat} {Q : State → Prop} {A : Nat → Prop} {H0 : Heap} {D : va_G} {kc : Nat → ClassId} {ws : va_W} {cc : ByteArray} {nL : Nat} {Ts : List Cond} {own : String} {y : MethodName} {bytes : ByteArray} {maxL : Nat} {ret : Option FieldType} {wl : List Cond} {rm : Room} {n index : Nat} {As rest : List Value} {wc wc' ws' : va_W} {pc : Nat} {ls : Array Slot} {st : List Value} {C : String} {b : Nat} {r : Int64} (S : CallFix p m c cc nL s args Ts own) (hN : gN s) (hK : va_K D vwCl (tyL kc) s) (hP : va_P D vwCl ws H) (hD : va_D A ws) (hS : va_S A H0 H locs) (hA : ∀ q : Nat, H0.size ≤ q → A q) (hM : ML l y wl rm D kc (.ref b :: As) wc wc' r) (cw : CallW R s args own C index y bytes maxL ret wl rm 0 0 n) (isC isR pm : List Nat) (hcut : gCut ws wc wc' ws' isC isR pm) (q0 ci : Nat) {q : vw_C} {fs : List Value} (he : ws[q0]? = some (b, .inr (ci, fs))) (hc : vwCl[ci]? = some q) (hqC : q.1 = C) (hn : As.length = n) (hsize : ls.size = nL) (hst : st = As.reverse ++ .ref b :: rest) (hW : (rest.map fun v => v.category).sum ≤ 8) (hdg : decode cc pc = .ok (.invokevirtual index, 3)) (hf : cells + 0 ≤ R.cells ∧ slots + 0 ≤ R.slots)
    (kk : ∀ (H1 : Heap) (locs1 : List Loc), va_P D vwCl ws' H1 → va_D A ws' → va_S A H0 H1 locs1 → W p l e R s m args below meth c H1 locs1 cells slots Q (F0 m (pc + 3) ls (.long r :: rest))) : W p l e R s m args below meth c H locs cells slots Q (F0 m pc ls st) := by
  have h3 := hcut.2.2.1
  simp only [Bool.and_eq_true] at h3
  have hPc : va_P D vwCl wc H := hP.sub isC (fm_of_map _ _ _ hcut.1)
  have hDc : va_D A wc := hD.sub isC h3.1.1.1 hcut.1
  have hFc := va_free (wc := wc) hD hS hA isC hcut.1
  refine va_calll (va_runV (As := As) (rest := rest) S (hM H.size) cw ⟨gPre_blind _ _ _ _ _, hqC ▸ va_recv hK hP hc he, fun U hU hW9 => ⟨rfl, by rw [hU], by rw [hU]; exact hPc, va_K.moved hW9.alike hK, hDc.weaken (fun _ _ _ _ => trivial), gN.warm hW9 hN⟩⟩ rfl hn hsize hst (lv_room hW) hdg hf) hS (fun q _ h => hFc q h) hFc (fun r' u t H1 locs1 ht hvm hw hB hz1 hk1 hS1 => ?_)
  obtain ⟨hP1, hK1, hD1⟩ := hB
  rw [ht] at hP1
  obtain ⟨hP2, hD2⟩ := g_world hP hD hcut hk1 hFc hP1 hD1
  have hw : r' = r := hw
  rw [hw]
  exact kk H1 locs1 hP2 hD2 hS1
theorem g_SL {p : Program} {l : Launch} {e : Env} {R : Room} {s : State} {m : MethodId} {args : Array Value} {below : List Frame} {meth : Method} {c : Code} {H : Heap} {locs : List Loc} {cells slots : Nat} {Q : State → Prop} {A : Nat → Prop} {H0 : Heap} {D : va_G} {kc : Nat → ClassId} {ws : va_W} {cc : ByteArray} {nL : Nat} {Ts : List Cond} {own : String} {y : MethodName} {bytes : ByteArray} {maxL : Nat} {ret : Option FieldType} {wl : List Cond} {rm : Room} {n index : Nat} {As rest : List Value} {wc wc' ws' : va_W} {pc : Nat} {ls : Array Slot} {st : List Value} {r : Int64} (S : CallFix p m c cc nL s args Ts own) (hN : gN s) (hK : va_K D vwCl (tyL kc) s) (hP : va_P D vwCl ws H) (hD : va_D A ws) (hS : va_S A H0 H locs) (hA : ∀ q : Nat, H0.size ≤ q → A q) (hM : ML l y wl rm D kc As wc wc' r) (cw : CallB R s args own index y bytes maxL ret wl rm 0 0 n ∧ (Cond.static y).before args s = true) (isC isR pm : List Nat) (hcut : gCut ws wc wc' ws' isC isR pm) (hn : As.length = n) (hsize : ls.size = nL) (hst : st = As.reverse ++ rest) (hW : (rest.map fun v => v.category).sum ≤ 8) (hdg : decode cc pc = .ok (.invokestatic index, 3)) (hf : cells + 0 ≤ R.cells ∧ slots + 0 ≤ R.slots)
    (kk : ∀ (H1 : Heap) (locs1 : List Loc), va_P D vwCl ws' H1 → va_D A ws' → va_S A H0 H1 locs1 → W p l e R s m args below meth c H1 locs1 cells slots Q (F0 m (pc + 3) ls (.long r :: rest))) : W p l e R s m args below meth c H locs cells slots Q (F0 m pc ls st) := by
  have h3 := hcut.2.2.1
  simp only [Bool.and_eq_true] at h3
  have hPc : va_P D vwCl wc H := hP.sub isC (fm_of_map _ _ _ hcut.1)
  have hDc : va_D A wc := hD.sub isC h3.1.1.1 hcut.1
  have hFc := va_free (wc := wc) hD hS hA isC hcut.1
  refine va_calll (va_runS (As := As) (rest := rest) S (hM H.size) cw ⟨gPre_blind _ _ _ _ _, fun U hU hW9 => ⟨rfl, by rw [hU], by rw [hU]; exact hPc, va_K.moved hW9.alike hK, hDc.weaken (fun _ _ _ _ => trivial), gN.warm hW9 hN⟩⟩ rfl hn hsize hst (lv_room hW) hdg hf) hS (fun q _ h => hFc q h) hFc (fun r' u t H1 locs1 ht hvm hw hB hz1 hk1 hS1 => ?_)
  obtain ⟨hP1, hK1, hD1⟩ := hB
  rw [ht] at hP1
  obtain ⟨hP2, hD2⟩ := g_world hP hD hcut hk1 hFc hP1 hD1
  have hw : r' = r := hw
  rw [hw]
  exact kk H1 locs1 hP2 hD2 hS1
theorem g_NL {p : Program} {l : Launch} {e : Env} {R : Room} {s : State} {m : MethodId} {args : Array Value} {below : List Frame} {meth : Method} {c : Code} {H : Heap} {locs : List Loc} {cells slots : Nat} {Q : State → Prop} {A : Nat → Prop} {H0 : Heap} {D : va_G} {kc : Nat → ClassId} {ws : va_W} {cc : ByteArray} {nL : Nat} {Ts : List Cond} {own : String} {y : MethodName} {bytes : ByteArray} {maxL : Nat} {ret : Option FieldType} {wl : List Cond} {rm : Room} {n index : Nat} {As rest : List Value} {wc wc' ws' : va_W} {pc : Nat} {ls : Array Slot} {st : List Value} {host : String} {r : Int64} (S : CallFix p m c cc nL s args Ts own) (hN : gN s) (hK : va_K D vwCl (tyL kc) s) (hP : va_P D vwCl ws H) (hD : va_D A ws) (hS : va_S A H0 H locs) (hA : ∀ q : Nat, H0.size ≤ q → A q) (hM : ML l y wl rm D kc As wc wc' r) (cw : va_CN R s args own index y host bytes maxL ret wl rm 0 0 n ∧ (Cond.static y).before args s = true ∧ True) (isC isR pm : List Nat) (hcut : gCut ws wc wc' ws' isC isR pm) (hn : As.length = n) (hsize : ls.size = nL) (hst : st = As.reverse ++ rest) (hW : (rest.map fun v => v.category).sum ≤ 8) (hdg : decode cc pc = .ok (.invokestatic index, 3)) (hf : cells + 0 ≤ R.cells ∧ slots + 0 ≤ R.slots)
    (kk : ∀ (H1 : Heap) (locs1 : List Loc), va_P D vwCl ws' H1 → va_D A ws' → va_S A H0 H1 locs1 → W p l e R s m args below meth c H1 locs1 cells slots Q (F0 m (pc + 3) ls (.long r :: rest))) : W p l e R s m args below meth c H locs cells slots Q (F0 m pc ls st) := by
  have h3 := hcut.2.2.1
  simp only [Bool.and_eq_true] at h3
  have hPc : va_P D vwCl wc H := hP.sub isC (fm_of_map _ _ _ hcut.1)
  have hDc : va_D A wc := hD.sub isC h3.1.1.1 hcut.1
  have hFc := va_free (wc := wc) hD hS hA isC hcut.1
  refine va_calll (va_runSN (As := As) (rest := rest) S (hM H.size) cw ⟨gPre_blind _ _ _ _ _, fun U hU hW9 => ⟨rfl, by rw [hU], by rw [hU]; exact hPc, va_K.moved hW9.alike hK, hDc.weaken (fun _ _ _ _ => trivial), gN.warm hW9 hN⟩⟩ rfl hn hsize hst (lv_room hW) hdg hf) hS (fun q _ h => hFc q h) hFc (fun r' u t H1 locs1 ht hvm hw hB hz1 hk1 hS1 => ?_)
  obtain ⟨hP1, hK1, hD1⟩ := hB
  rw [ht] at hP1
  obtain ⟨hP2, hD2⟩ := g_world hP hD hcut hk1 hFc hP1 hD1
  have hw : r' = r := hw
  rw [hw]
  exact kk H1 locs1 hP2 hD2 hS1
theorem g_VV {p : Program} {l : Launch} {e : Env} {R : Room} {s : State} {m : MethodId} {args : Array Value} {below : List Frame} {meth : Method} {c : Code} {H : Heap} {locs : List Loc} {cells slots : Nat} {Q : State → Prop} {A : Nat → Prop} {H0 : Heap} {D : va_G} {kc : Nat → ClassId} {ws : va_W} {cc : ByteArray} {nL : Nat} {Ts : List Cond} {own : String} {y : MethodName} {bytes : ByteArray} {maxL : Nat} {ret : Option FieldType} {wl : List Cond} {rm : Room} {n index : Nat} {As rest : List Value} {wc wc' ws' : va_W} {pc : Nat} {ls : Array Slot} {st : List Value} {C : String} {b : Nat} (S : CallFix p m c cc nL s args Ts own) (hN : gN s) (hK : va_K D vwCl (tyL kc) s) (hP : va_P D vwCl ws H) (hD : va_D A ws) (hS : va_S A H0 H locs) (hA : ∀ q : Nat, H0.size ≤ q → A q) (hM : MV l y wl rm D kc (.ref b :: As) wc wc') (cw : CallW R s args own C index y bytes maxL ret wl rm 0 0 n) (isC isR pm : List Nat) (hcut : gCut ws wc wc' ws' isC isR pm) (q0 ci : Nat) {q : vw_C} {fs : List Value} (he : ws[q0]? = some (b, .inr (ci, fs))) (hc : vwCl[ci]? = some q) (hqC : q.1 = C) (hn : As.length = n) (hsize : ls.size = nL) (hst : st = As.reverse ++ .ref b :: rest) (hW : (rest.map fun v => v.category).sum ≤ 8) (hdg : decode cc pc = .ok (.invokevirtual index, 3)) (hf : cells + 0 ≤ R.cells ∧ slots + 0 ≤ R.slots)
    (kk : ∀ (H1 : Heap) (locs1 : List Loc), va_P D vwCl ws' H1 → va_D A ws' → va_S A H0 H1 locs1 → W p l e R s m args below meth c H1 locs1 cells slots Q (F0 m (pc + 3) ls rest)) : W p l e R s m args below meth c H locs cells slots Q (F0 m pc ls st) := by
  have h3 := hcut.2.2.1
  simp only [Bool.and_eq_true] at h3
  have hPc : va_P D vwCl wc H := hP.sub isC (fm_of_map _ _ _ hcut.1)
  have hDc : va_D A wc := hD.sub isC h3.1.1.1 hcut.1
  have hFc := va_free (wc := wc) hD hS hA isC hcut.1
  refine va_callv (va_runV (As := As) (rest := rest) S (hM H.size) cw ⟨gPre_blind _ _ _ _ _, hqC ▸ va_recv hK hP hc he, fun U hU hW9 => ⟨rfl, by rw [hU], by rw [hU]; exact hPc, va_K.moved hW9.alike hK, hDc.weaken (fun _ _ _ _ => trivial), gN.warm hW9 hN⟩⟩ rfl hn hsize hst (lv_room hW) hdg hf) hS (fun q _ h => hFc q h) hFc (fun u t H1 locs1 ht hvm hw hB hz1 hk1 hS1 => ?_)
  obtain ⟨hP1, hK1, hD1⟩ := hB
  rw [ht] at hP1
  obtain ⟨hP2, hD2⟩ := g_world hP hD hcut hk1 hFc hP1 hD1
  exact kk H1 locs1 hP2 hD2 hS1
theorem g_SV {p : Program} {l : Launch} {e : Env} {R : Room} {s : State} {m : MethodId} {args : Array Value} {below : List Frame} {meth : Method} {c : Code} {H : Heap} {locs : List Loc} {cells slots : Nat} {Q : State → Prop} {A : Nat → Prop} {H0 : Heap} {D : va_G} {kc : Nat → ClassId} {ws : va_W} {cc : ByteArray} {nL : Nat} {Ts : List Cond} {own : String} {y : MethodName} {bytes : ByteArray} {maxL : Nat} {ret : Option FieldType} {wl : List Cond} {rm : Room} {n index : Nat} {As rest : List Value} {wc wc' ws' : va_W} {pc : Nat} {ls : Array Slot} {st : List Value} (S : CallFix p m c cc nL s args Ts own) (hN : gN s) (hK : va_K D vwCl (tyL kc) s) (hP : va_P D vwCl ws H) (hD : va_D A ws) (hS : va_S A H0 H locs) (hA : ∀ q : Nat, H0.size ≤ q → A q) (hM : MV l y wl rm D kc As wc wc') (cw : CallB R s args own index y bytes maxL ret wl rm 0 0 n ∧ (Cond.static y).before args s = true) (isC isR pm : List Nat) (hcut : gCut ws wc wc' ws' isC isR pm) (hn : As.length = n) (hsize : ls.size = nL) (hst : st = As.reverse ++ rest) (hW : (rest.map fun v => v.category).sum ≤ 8) (hdg : decode cc pc = .ok (.invokestatic index, 3)) (hf : cells + 0 ≤ R.cells ∧ slots + 0 ≤ R.slots)
    (kk : ∀ (H1 : Heap) (locs1 : List Loc), va_P D vwCl ws' H1 → va_D A ws' → va_S A H0 H1 locs1 → W p l e R s m args below meth c H1 locs1 cells slots Q (F0 m (pc + 3) ls rest)) : W p l e R s m args below meth c H locs cells slots Q (F0 m pc ls st) := by
  have h3 := hcut.2.2.1
  simp only [Bool.and_eq_true] at h3
  have hPc : va_P D vwCl wc H := hP.sub isC (fm_of_map _ _ _ hcut.1)
  have hDc : va_D A wc := hD.sub isC h3.1.1.1 hcut.1
  have hFc := va_free (wc := wc) hD hS hA isC hcut.1
  refine va_callv (va_runS (As := As) (rest := rest) S (hM H.size) cw ⟨gPre_blind _ _ _ _ _, fun U hU hW9 => ⟨rfl, by rw [hU], by rw [hU]; exact hPc, va_K.moved hW9.alike hK, hDc.weaken (fun _ _ _ _ => trivial), gN.warm hW9 hN⟩⟩ rfl hn hsize hst (lv_room hW) hdg hf) hS (fun q _ h => hFc q h) hFc (fun u t H1 locs1 ht hvm hw hB hz1 hk1 hS1 => ?_)
  obtain ⟨hP1, hK1, hD1⟩ := hB
  rw [ht] at hP1
  obtain ⟨hP2, hD2⟩ := g_world hP hD hcut hk1 hFc hP1 hD1
  exact kk H1 locs1 hP2 hD2 hS1
theorem g_NV {p : Program} {l : Launch} {e : Env} {R : Room} {s : State} {m : MethodId} {args : Array Value} {below : List Frame} {meth : Method} {c : Code} {H : Heap} {locs : List Loc} {cells slots : Nat} {Q : State → Prop} {A : Nat → Prop} {H0 : Heap} {D : va_G} {kc : Nat → ClassId} {ws : va_W} {cc : ByteArray} {nL : Nat} {Ts : List Cond} {own : String} {y : MethodName} {bytes : ByteArray} {maxL : Nat} {ret : Option FieldType} {wl : List Cond} {rm : Room} {n index : Nat} {As rest : List Value} {wc wc' ws' : va_W} {pc : Nat} {ls : Array Slot} {st : List Value} {host : String} (S : CallFix p m c cc nL s args Ts own) (hN : gN s) (hK : va_K D vwCl (tyL kc) s) (hP : va_P D vwCl ws H) (hD : va_D A ws) (hS : va_S A H0 H locs) (hA : ∀ q : Nat, H0.size ≤ q → A q) (hM : MV l y wl rm D kc As wc wc') (cw : va_CN R s args own index y host bytes maxL ret wl rm 0 0 n ∧ (Cond.static y).before args s = true ∧ True) (isC isR pm : List Nat) (hcut : gCut ws wc wc' ws' isC isR pm) (hn : As.length = n) (hsize : ls.size = nL) (hst : st = As.reverse ++ rest) (hW : (rest.map fun v => v.category).sum ≤ 8) (hdg : decode cc pc = .ok (.invokestatic index, 3)) (hf : cells + 0 ≤ R.cells ∧ slots + 0 ≤ R.slots)
    (kk : ∀ (H1 : Heap) (locs1 : List Loc), va_P D vwCl ws' H1 → va_D A ws' → va_S A H0 H1 locs1 → W p l e R s m args below meth c H1 locs1 cells slots Q (F0 m (pc + 3) ls rest)) : W p l e R s m args below meth c H locs cells slots Q (F0 m pc ls st) := by
  have h3 := hcut.2.2.1
  simp only [Bool.and_eq_true] at h3
  have hPc : va_P D vwCl wc H := hP.sub isC (fm_of_map _ _ _ hcut.1)
  have hDc : va_D A wc := hD.sub isC h3.1.1.1 hcut.1
  have hFc := va_free (wc := wc) hD hS hA isC hcut.1
  refine va_callv (va_runSN (As := As) (rest := rest) S (hM H.size) cw ⟨gPre_blind _ _ _ _ _, fun U hU hW9 => ⟨rfl, by rw [hU], by rw [hU]; exact hPc, va_K.moved hW9.alike hK, hDc.weaken (fun _ _ _ _ => trivial), gN.warm hW9 hN⟩⟩ rfl hn hsize hst (lv_room hW) hdg hf) hS (fun q _ h => hFc q h) hFc (fun u t H1 locs1 ht hvm hw hB hz1 hk1 hS1 => ?_)
  obtain ⟨hP1, hK1, hD1⟩ := hB
  rw [ht] at hP1
  obtain ⟨hP2, hD2⟩ := g_world hP hD hcut hk1 hFc hP1 hD1
  exact kk H1 locs1 hP2 hD2 hS1
/-! the pure side -/
