def sTxt : List String := ["region", "wind", "turn", "balloon", "letter", "loft", "start", "seed"]
abbrev sZ (A : Nat → Prop) (U : State) (H : Heap) : Prop := va_Z "java/lang/String" "COMPACT_STRINGS" "Z" (.int 1) A U H
abbrev sQ (A : Nat → Prop) (U : State) (H : Heap) : Prop := va_Zq "jdk/internal/util/Preconditions" "SIOOBE_FORMATTER" "Ljava/util/function/BiFunction;" A U H
def sR (adK : Nat → Nat) (U : State) : Prop := vk_R RX4 64 "region" (adK 0) U ∧ vk_R RX4 73 "wind" (adK 1) U ∧ vk_R RX4 78 "turn" (adK 2) U ∧ vk_R RX4 88 "balloon" (adK 3) U ∧ vk_R RX4 93 "letter" (adK 4) U ∧ vk_R RX4 98 "loft" (adK 5) U ∧ vk_R RX4 103 "start" (adK 6) U ∧ vk_R RX4 108 "seed" (adK 7) U ∧ vk_R RX9 197 "region" (adK 0) U ∧ vk_R RX9 203 "wind" (adK 1) U ∧ vk_R RX9 208 "turn" (adK 2) U ∧ vk_R RX9 213 "balloon" (adK 3) U ∧ vk_R RX9 218 "letter" (adK 4) U ∧ vk_R RX9 176 "loft" (adK 5) U ∧ vk_R RX9 189 "start" (adK 6) U ∧ vk_R RX9 193 "seed" (adK 7) U
theorem sR.same {adK : Nat → Nat} {u U : State} (hv : U.vm = u.vm) (h : sR adK u) : sR adK U := by
  obtain ⟨h0, h1, h2, h3, h4, h5, h6, h7, h8, h9, h10, h11, h12, h13, h14, h15⟩ := h
  exact ⟨vk_R.same hv h0, vk_R.same hv h1, vk_R.same hv h2, vk_R.same hv h3, vk_R.same hv h4, vk_R.same hv h5, vk_R.same hv h6, vk_R.same hv h7, vk_R.same hv h8, vk_R.same hv h9, vk_R.same hv h10, vk_R.same hv h11, vk_R.same hv h12, vk_R.same hv h13, vk_R.same hv h14, vk_R.same hv h15⟩
theorem sR.warm {adK : Nat → Nat} {s U : State} (hW : s.WarmedH U.vm) (h : sR adK s) : sR adK U := by
  obtain ⟨h0, h1, h2, h3, h4, h5, h6, h7, h8, h9, h10, h11, h12, h13, h14, h15⟩ := h
  exact ⟨vk_R.warm hW h0, vk_R.warm hW h1, vk_R.warm hW h2, vk_R.warm hW h3, vk_R.warm hW h4, vk_R.warm hW h5, vk_R.warm hW h6, vk_R.warm hW h7, vk_R.warm hW h8, vk_R.warm hW h9, vk_R.warm hW h10, vk_R.warm hW h11, vk_R.warm hW h12, vk_R.warm hW h13, vk_R.warm hW h14, vk_R.warm hW h15⟩
/-- what is known of the string constants, outside the cells that may change -/
def gS (adK adV : Nat → Nat) (A : Nat → Prop) (U : State) (H : Heap) : Prop := vk_S 8 sLen sByt adK adV A U H ∧ sZ A U H ∧ sQ A U H ∧ sR adK U
theorem gS.blind {adK adV : Nat → Nat} {A : Nat → Prop} {U : State} {g : JFrame} {mk : MethodId} {a : Array Value} (h : gS adK adV A U U.heap) : gS adK adV A (U.calling g mk a) (U.calling g mk a).heap := ⟨vk_S.moved (u := U) (U := U.calling g mk a) (Vm.Alike.refl U.vm) h.1, va_Z.moved (u := U) (U := U.calling g mk a) (Vm.Alike.refl U.vm) h.2.1, va_Zq.moved (u := U) (U := U.calling g mk a) (Vm.Alike.refl U.vm) h.2.2.1, sR.same (u := U) (U := U.calling g mk a) rfl h.2.2.2⟩
theorem gS.at {adK adV : Nat → Nat} {A A1 : Nat → Prop} {s U : State} {H : Heap} {locs : List Loc} (h : gS adK adV A s s.heap) (hS : va_S A s.heap H locs) (hA : ∀ q, A1 q → A q) (hU : U.heap = H) (hW : s.WarmedH U.vm) : gS adK adV A1 U U.heap := by
  rw [hU]
  exact ⟨vk_S.moved hW.alike ((h.1.kept hS.2.1).narrow hA), va_Z.moved hW.alike ((h.2.1.kept hS.2.1).narrow hA), va_Zq.moved hW.alike ((h.2.2.1.kept hS.2.1).narrow hA), sR.warm hW h.2.2.2⟩
def gPreS (D : va_G) (kc : Nat → ClassId) (adK adV : Nat → Nat) (ws : va_W) (sz : Nat) (U : State) : Prop := gPre D kc ws sz U ∧ gS adK adV (va_A ws sz) U U.heap
theorem gPreS_blind (av : List Value) (D : va_G) (kc : Nat → ClassId) (adK adV : Nat → Nat) (ws : va_W) (sz : Nat) : FrameBlind (va_Pc av (gPreS D kc adK adV ws sz)) := by
  intro a U g mk h
  obtain ⟨h0, h1, h2⟩ := h
  have h3 := gPre_blind av D kc ws sz a U g mk ⟨h0, h1⟩
  exact ⟨h0, h3.2, h2.blind⟩
def MIs (l : Launch) (y : MethodName) (wl : List Cond) (rm : Room) (D : va_G) (kc : Nat → ClassId) (adK adV : Nat → Nat) (av : List Value) (ws ws' : va_W) (r : Int32) : Prop := ∀ sz : Nat, Met l y wl rm (va_Pc av (gPreS D kc adK adV ws sz)) (va_Qi (fun (r' : Int32) (_ : Unit) => r' = r) (fun _ t => gPost D kc (va_A ws sz) ws' t) (va_A ws sz)) 0 0 (va_A ws sz)
def MZs (l : Launch) (y : MethodName) (wl : List Cond) (rm : Room) (D : va_G) (kc : Nat → ClassId) (adK adV : Nat → Nat) (av : List Value) (ws ws' : va_W) (r : Int32) : Prop := ∀ sz : Nat, Met l y wl rm (va_Pc av (gPreS D kc adK adV ws sz)) (va_Qi (fun (r' : Int32) (_ : Unit) => r' = r ∧ (r = 0 ∨ r = 1)) (fun _ t => gPost D kc (va_A ws sz) ws' t) (va_A ws sz)) 0 0 (va_A ws sz)
theorem gMs_I {l : Launch} {y : MethodName} {wl wl' : List Cond} {rm : Room} {D : va_G} {kc : Nat → ClassId} {adK adV : Nat → Nat} {av : List Value} {ws ws' : va_W} {r : Int32} {ty : FieldType} {cc : ByteArray} {maxL : Nat} (hy : plainName y.cls = true) (hw : wl = Cond.code y cc maxL (some ty) :: wl') (hlen : (lg_sl av).length ≤ maxL) (hn : narrow ty (.int r) = .int r)
    (body : ∀ (p : Program) (e : Env) (s : State) (m : MethodId) (below : List Frame) (meth : Method) (c : Code) (A : Nat → Prop) (ls : Array Slot) (Q : State → Prop), p.tables.exec = Jvm.exec → c.code = cc → c.maxLocals = maxL → s.vm.findClass y.cls = some m.cls → (∀ w ∈ wl, w.before av.toArray s = true) → gN s → gS adK adV A s s.heap → va_K D vwCl (tyL kc) s → va_P D vwCl ws s.heap → va_D A ws → (∀ q : Nat, s.heap.size ≤ q → A q) → lv_has ls maxL (lv_args 0 av) →
      (∀ (H : Heap) (locs : List Loc) (pc : Nat) (ls : Array Slot), va_P D vwCl ws' H → va_D A ws' → va_S A s.heap H locs → decode cc pc = .ok (.ireturn, 1) → W p l e rm s m av.toArray below meth c H locs 0 0 Q (F0 m pc ls [.int r])) →
      W p l e rm s m av.toArray below meth c s.heap [] 0 0 Q (F0 m 0 ls [])) : MIs l y wl rm D kc adK adV av ws ws' r := by
  intro sz
  refine Met.ofW (cc := cc) (maxL := maxL) (ret := (some ty)) hy hw ?_
  intro p e s m args below meth c s₁ B hml hv
  obtain ⟨rfl, ⟨hsz, hP, hK, hD0, hN⟩, hG⟩ := hv
  have hr := B.returns
  have hlocks := B.notSynchronized
  subst hsz
  have hl := lv_entry av (n := maxL) hlen
  rw [lg_entry_eq]
  generalize (lg_sl av ++ List.replicate (maxL - (lg_sl av).length) Slot.unset).toArray = ls at hl ⊢
  refine body p e s m below meth c (va_A ws s.heap.size) ls _ B.exec B.bytes hml (findClass_of_methodNamed B.named) (atoms_spec (ws := wl) B.pre) hN hG hK hP hD0.self (fun q h => Or.inr h) hl ?_
  intro H locs pc ls hP9 hD9 hS9 hd
  exact W.zret (v := r) B.exec B.bytes hr hn (fun t ht hW => ⟨⟨r, (), rfl, rfl, by rw [ht]; exact hP9, va_K.moved hW.alike hK, hD9⟩, hS9.F ht⟩) hS9.2.2 hd hlocks
theorem gMs_Z {l : Launch} {y : MethodName} {wl wl' : List Cond} {rm : Room} {D : va_G} {kc : Nat → ClassId} {adK adV : Nat → Nat} {av : List Value} {ws ws' : va_W} {r : Int32}  {cc : ByteArray} {maxL : Nat} (hy : plainName y.cls = true) (hw : wl = Cond.code y cc maxL (some .boolean) :: wl') (hlen : (lg_sl av).length ≤ maxL)
    (body : ∀ (p : Program) (e : Env) (s : State) (m : MethodId) (below : List Frame) (meth : Method) (c : Code) (A : Nat → Prop) (ls : Array Slot) (Q : State → Prop), p.tables.exec = Jvm.exec → c.code = cc → c.maxLocals = maxL → s.vm.findClass y.cls = some m.cls → (∀ w ∈ wl, w.before av.toArray s = true) → gN s → gS adK adV A s s.heap → va_K D vwCl (tyL kc) s → va_P D vwCl ws s.heap → va_D A ws → (∀ q : Nat, s.heap.size ≤ q → A q) → lv_has ls maxL (lv_args 0 av) →
      (∀ (H : Heap) (locs : List Loc) (pc : Nat) (ls : Array Slot), (r = 0 ∨ r = 1) → va_P D vwCl ws' H → va_D A ws' → va_S A s.heap H locs → decode cc pc = .ok (.ireturn, 1) → W p l e rm s m av.toArray below meth c H locs 0 0 Q (F0 m pc ls [.int r])) →
      W p l e rm s m av.toArray below meth c s.heap [] 0 0 Q (F0 m 0 ls [])) : MZs l y wl rm D kc adK adV av ws ws' r := by
  intro sz
  refine Met.ofW (cc := cc) (maxL := maxL) (ret := (some .boolean)) hy hw ?_
  intro p e s m args below meth c s₁ B hml hv
  obtain ⟨rfl, ⟨hsz, hP, hK, hD0, hN⟩, hG⟩ := hv
  have hr := B.returns
  have hlocks := B.notSynchronized
  subst hsz
  have hl := lv_entry av (n := maxL) hlen
  rw [lg_entry_eq]
  generalize (lg_sl av ++ List.replicate (maxL - (lg_sl av).length) Slot.unset).toArray = ls at hl ⊢
  refine body p e s m below meth c (va_A ws s.heap.size) ls _ B.exec B.bytes hml (findClass_of_methodNamed B.named) (atoms_spec (ws := wl) B.pre) hN hG hK hP hD0.self (fun q h => Or.inr h) hl ?_
  intro H locs pc ls hz hP9 hD9 hS9 hd
  exact W.zret (v := r) B.exec B.bytes hr (gz_narrow hz) (fun t ht hW => ⟨⟨r, (), rfl, ⟨rfl, hz⟩, by rw [ht]; exact hP9, va_K.moved hW.alike hK, hD9⟩, hS9.F ht⟩) hS9.2.2 hd hlocks
theorem gs_VI {p : Program} {l : Launch} {e : Env} {R : Room} {s : State} {m : MethodId} {args : Array Value} {below : List Frame} {meth : Method} {c : Code} {H : Heap} {locs : List Loc} {cells slots : Nat} {Q : State → Prop} {A : Nat → Prop} {D : va_G} {kc : Nat → ClassId} {adK adV : Nat → Nat} {ws : va_W} {cc : ByteArray} {nL : Nat} {Ts : List Cond} {own : String} {y : MethodName} {bytes : ByteArray} {maxL : Nat} {ret : Option FieldType} {wl : List Cond} {rm : Room} {n index : Nat} {As rest : List Value} {wc wc' ws' : va_W} {pc : Nat} {ls : Array Slot} {st : List Value} {C : String} {b : Nat} {r : Int32} (S : CallFix p m c cc nL s args Ts own) (hN : gN s) (hG : gS adK adV A s s.heap) (hK : va_K D vwCl (tyL kc) s) (hP : va_P D vwCl ws H) (hD : va_D A ws) (hS : va_S A s.heap H locs) (hA : ∀ q : Nat, s.heap.size ≤ q → A q) (hM : MIs l y wl rm D kc adK adV (.ref b :: As) wc wc' r) (cw : CallW R s args own C index y bytes maxL ret wl rm 0 0 n) (isC isR pm : List Nat) (hcut : gCut ws wc wc' ws' isC isR pm) (hrec : ∃ cell : Cell, H[b]? = some cell ∧ cell.vm.isStatics = false ∧ s.vm.findClass C = some cell.cls) (hn : As.length = n) (hsize : ls.size = nL) (hst : st = As.reverse ++ .ref b :: rest) (hW : (rest.map fun v => v.category).sum ≤ 8) (hdg : decode cc pc = .ok (.invokevirtual index, 3)) (hf : cells + 0 ≤ R.cells ∧ slots + 0 ≤ R.slots)
    (kk : ∀ (H1 : Heap) (locs1 : List Loc), va_P D vwCl ws' H1 → va_D A ws' → va_S A s.heap H1 locs1 → W p l e R s m args below meth c H1 locs1 cells slots Q (F0 m (pc + 3) ls (.int r :: rest))) : W p l e R s m args below meth c H locs cells slots Q (F0 m pc ls st) := by
  have h3 := hcut.2.2.1
  simp only [Bool.and_eq_true] at h3
  have hPc : va_P D vwCl wc H := hP.sub isC (fm_of_map _ _ _ hcut.1)
  have hDc : va_D A wc := hD.sub isC h3.1.1.1 hcut.1
  have hFc := va_free (wc := wc) hD hS hA isC hcut.1
  refine va_calli (va_runV (As := As) (rest := rest) S (hM H.size) cw ⟨gPreS_blind _ _ _ _ _ _ _, hrec, fun U hU hW9 => ⟨rfl, ⟨by rw [hU], by rw [hU]; exact hPc, va_K.moved hW9.alike hK, hDc.weaken (fun _ _ _ _ => trivial), gN.warm hW9 hN⟩, hG.at hS hFc hU hW9⟩⟩ rfl hn hsize hst (lv_room hW) hdg hf) hS (fun q _ h => hFc q h) hFc (fun r' u t H1 locs1 ht hvm hw hB hz1 hk1 hS1 => ?_)
  obtain ⟨hP1, hK1, hD1⟩ := hB
  rw [ht] at hP1
  obtain ⟨hP2, hD2⟩ := g_world hP hD hcut hk1 hFc hP1 hD1
  have hw : r' = r := hw
  rw [hw]
  exact kk H1 locs1 hP2 hD2 hS1
theorem gs_SI {p : Program} {l : Launch} {e : Env} {R : Room} {s : State} {m : MethodId} {args : Array Value} {below : List Frame} {meth : Method} {c : Code} {H : Heap} {locs : List Loc} {cells slots : Nat} {Q : State → Prop} {A : Nat → Prop} {D : va_G} {kc : Nat → ClassId} {adK adV : Nat → Nat} {ws : va_W} {cc : ByteArray} {nL : Nat} {Ts : List Cond} {own : String} {y : MethodName} {bytes : ByteArray} {maxL : Nat} {ret : Option FieldType} {wl : List Cond} {rm : Room} {n index : Nat} {As rest : List Value} {wc wc' ws' : va_W} {pc : Nat} {ls : Array Slot} {st : List Value} {r : Int32} (S : CallFix p m c cc nL s args Ts own) (hN : gN s) (hG : gS adK adV A s s.heap) (hK : va_K D vwCl (tyL kc) s) (hP : va_P D vwCl ws H) (hD : va_D A ws) (hS : va_S A s.heap H locs) (hA : ∀ q : Nat, s.heap.size ≤ q → A q) (hM : MIs l y wl rm D kc adK adV As wc wc' r) (cw : CallB R s args own index y bytes maxL ret wl rm 0 0 n ∧ (Cond.static y).before args s = true) (isC isR pm : List Nat) (hcut : gCut ws wc wc' ws' isC isR pm) (hn : As.length = n) (hsize : ls.size = nL) (hst : st = As.reverse ++ rest) (hW : (rest.map fun v => v.category).sum ≤ 8) (hdg : decode cc pc = .ok (.invokestatic index, 3)) (hf : cells + 0 ≤ R.cells ∧ slots + 0 ≤ R.slots)
    (kk : ∀ (H1 : Heap) (locs1 : List Loc), va_P D vwCl ws' H1 → va_D A ws' → va_S A s.heap H1 locs1 → W p l e R s m args below meth c H1 locs1 cells slots Q (F0 m (pc + 3) ls (.int r :: rest))) : W p l e R s m args below meth c H locs cells slots Q (F0 m pc ls st) := by
  have h3 := hcut.2.2.1
  simp only [Bool.and_eq_true] at h3
  have hPc : va_P D vwCl wc H := hP.sub isC (fm_of_map _ _ _ hcut.1)
  have hDc : va_D A wc := hD.sub isC h3.1.1.1 hcut.1
  have hFc := va_free (wc := wc) hD hS hA isC hcut.1
  refine va_calli (va_runS (As := As) (rest := rest) S (hM H.size) cw ⟨gPreS_blind _ _ _ _ _ _ _, fun U hU hW9 => ⟨rfl, ⟨by rw [hU], by rw [hU]; exact hPc, va_K.moved hW9.alike hK, hDc.weaken (fun _ _ _ _ => trivial), gN.warm hW9 hN⟩, hG.at hS hFc hU hW9⟩⟩ rfl hn hsize hst (lv_room hW) hdg hf) hS (fun q _ h => hFc q h) hFc (fun r' u t H1 locs1 ht hvm hw hB hz1 hk1 hS1 => ?_)
  obtain ⟨hP1, hK1, hD1⟩ := hB
  rw [ht] at hP1
  obtain ⟨hP2, hD2⟩ := g_world hP hD hcut hk1 hFc hP1 hD1
  have hw : r' = r := hw
  rw [hw]
  exact kk H1 locs1 hP2 hD2 hS1
theorem gs_VZ {p : Program} {l : Launch} {e : Env} {R : Room} {s : State} {m : MethodId} {args : Array Value} {below : List Frame} {meth : Method} {c : Code} {H : Heap} {locs : List Loc} {cells slots : Nat} {Q : State → Prop} {A : Nat → Prop} {D : va_G} {kc : Nat → ClassId} {adK adV : Nat → Nat} {ws : va_W} {cc : ByteArray} {nL : Nat} {Ts : List Cond} {own : String} {y : MethodName} {bytes : ByteArray} {maxL : Nat} {ret : Option FieldType} {wl : List Cond} {rm : Room} {n index : Nat} {As rest : List Value} {wc wc' ws' : va_W} {pc : Nat} {ls : Array Slot} {st : List Value} {C : String} {b : Nat} {r : Int32} (S : CallFix p m c cc nL s args Ts own) (hN : gN s) (hG : gS adK adV A s s.heap) (hK : va_K D vwCl (tyL kc) s) (hP : va_P D vwCl ws H) (hD : va_D A ws) (hS : va_S A s.heap H locs) (hA : ∀ q : Nat, s.heap.size ≤ q → A q) (hM : MZs l y wl rm D kc adK adV (.ref b :: As) wc wc' r) (cw : CallW R s args own C index y bytes maxL ret wl rm 0 0 n) (isC isR pm : List Nat) (hcut : gCut ws wc wc' ws' isC isR pm) (hrec : ∃ cell : Cell, H[b]? = some cell ∧ cell.vm.isStatics = false ∧ s.vm.findClass C = some cell.cls) (hn : As.length = n) (hsize : ls.size = nL) (hst : st = As.reverse ++ .ref b :: rest) (hW : (rest.map fun v => v.category).sum ≤ 8) (hdg : decode cc pc = .ok (.invokevirtual index, 3)) (hf : cells + 0 ≤ R.cells ∧ slots + 0 ≤ R.slots)
    (kk : ∀ (H1 : Heap) (locs1 : List Loc), (r = 0 ∨ r = 1) → va_P D vwCl ws' H1 → va_D A ws' → va_S A s.heap H1 locs1 → W p l e R s m args below meth c H1 locs1 cells slots Q (F0 m (pc + 3) ls (.int r :: rest))) : W p l e R s m args below meth c H locs cells slots Q (F0 m pc ls st) := by
  have h3 := hcut.2.2.1
  simp only [Bool.and_eq_true] at h3
  have hPc : va_P D vwCl wc H := hP.sub isC (fm_of_map _ _ _ hcut.1)
  have hDc : va_D A wc := hD.sub isC h3.1.1.1 hcut.1
  have hFc := va_free (wc := wc) hD hS hA isC hcut.1
  refine va_calli (va_runV (As := As) (rest := rest) S (hM H.size) cw ⟨gPreS_blind _ _ _ _ _ _ _, hrec, fun U hU hW9 => ⟨rfl, ⟨by rw [hU], by rw [hU]; exact hPc, va_K.moved hW9.alike hK, hDc.weaken (fun _ _ _ _ => trivial), gN.warm hW9 hN⟩, hG.at hS hFc hU hW9⟩⟩ rfl hn hsize hst (lv_room hW) hdg hf) hS (fun q _ h => hFc q h) hFc (fun r' u t H1 locs1 ht hvm hw hB hz1 hk1 hS1 => ?_)
  obtain ⟨hP1, hK1, hD1⟩ := hB
  rw [ht] at hP1
  obtain ⟨hP2, hD2⟩ := g_world hP hD hcut hk1 hFc hP1 hD1
  have hw : r' = r ∧ (r = 0 ∨ r = 1) := hw
  rw [hw.1]
  exact kk H1 locs1 hw.2 hP2 hD2 hS1
theorem gs_SZ {p : Program} {l : Launch} {e : Env} {R : Room} {s : State} {m : MethodId} {args : Array Value} {below : List Frame} {meth : Method} {c : Code} {H : Heap} {locs : List Loc} {cells slots : Nat} {Q : State → Prop} {A : Nat → Prop} {D : va_G} {kc : Nat → ClassId} {adK adV : Nat → Nat} {ws : va_W} {cc : ByteArray} {nL : Nat} {Ts : List Cond} {own : String} {y : MethodName} {bytes : ByteArray} {maxL : Nat} {ret : Option FieldType} {wl : List Cond} {rm : Room} {n index : Nat} {As rest : List Value} {wc wc' ws' : va_W} {pc : Nat} {ls : Array Slot} {st : List Value} {r : Int32} (S : CallFix p m c cc nL s args Ts own) (hN : gN s) (hG : gS adK adV A s s.heap) (hK : va_K D vwCl (tyL kc) s) (hP : va_P D vwCl ws H) (hD : va_D A ws) (hS : va_S A s.heap H locs) (hA : ∀ q : Nat, s.heap.size ≤ q → A q) (hM : MZs l y wl rm D kc adK adV As wc wc' r) (cw : CallB R s args own index y bytes maxL ret wl rm 0 0 n ∧ (Cond.static y).before args s = true) (isC isR pm : List Nat) (hcut : gCut ws wc wc' ws' isC isR pm) (hn : As.length = n) (hsize : ls.size = nL) (hst : st = As.reverse ++ rest) (hW : (rest.map fun v => v.category).sum ≤ 8) (hdg : decode cc pc = .ok (.invokestatic index, 3)) (hf : cells + 0 ≤ R.cells ∧ slots + 0 ≤ R.slots)
    (kk : ∀ (H1 : Heap) (locs1 : List Loc), (r = 0 ∨ r = 1) → va_P D vwCl ws' H1 → va_D A ws' → va_S A s.heap H1 locs1 → W p l e R s m args below meth c H1 locs1 cells slots Q (F0 m (pc + 3) ls (.int r :: rest))) : W p l e R s m args below meth c H locs cells slots Q (F0 m pc ls st) := by
  have h3 := hcut.2.2.1
  simp only [Bool.and_eq_true] at h3
  have hPc : va_P D vwCl wc H := hP.sub isC (fm_of_map _ _ _ hcut.1)
  have hDc : va_D A wc := hD.sub isC h3.1.1.1 hcut.1
  have hFc := va_free (wc := wc) hD hS hA isC hcut.1
  refine va_calli (va_runS (As := As) (rest := rest) S (hM H.size) cw ⟨gPreS_blind _ _ _ _ _ _ _, fun U hU hW9 => ⟨rfl, ⟨by rw [hU], by rw [hU]; exact hPc, va_K.moved hW9.alike hK, hDc.weaken (fun _ _ _ _ => trivial), gN.warm hW9 hN⟩, hG.at hS hFc hU hW9⟩⟩ rfl hn hsize hst (lv_room hW) hdg hf) hS (fun q _ h => hFc q h) hFc (fun r' u t H1 locs1 ht hvm hw hB hz1 hk1 hS1 => ?_)
  obtain ⟨hP1, hK1, hD1⟩ := hB
  rw [ht] at hP1
  obtain ⟨hP2, hD2⟩ := g_world hP hD hcut hk1 hFc hP1 hD1
  have hw : r' = r ∧ (r = 0 ∨ r = 1) := hw
  rw [hw.1]
  exact kk H1 locs1 hw.2 hP2 hD2 hS1
set_option maxRecDepth 100000 in
/-- String.coder(): 0 -/
theorem cs_coder (l : Launch) (D : va_G) (kc : Nat → ClassId) (adK adV : Nat → Nat) (i : Nat) (hi : i < 8) : MIs l yJ0_coder_7d493 wsJ0_coder_7d493 ({ frames := 0, cells := 0, slots := 0, locals := 0 }) D kc adK adV [.ref (adK i)] [] [] 0 := by
  refine gMs_I (ty := .byte) (cc := cJ0_coder_7d493) (maxL := 1) (by decide) rfl (Nat.le_of_ble_eq_true rfl) rfl ?_
  intro p e s m below meth c A ls Q hx hb hml hown hts hN hG hK hP hD hA hl kR
  have hS : va_S A s.heap s.heap [] := va_S.rf
  have hl : lv_has ls 1 [(0, .ref (adK i))] := hl
  refine va_gets hx hb hG.2.1 hS hown (hts (.fieldLink RJ0 38 "java/lang/String" "COMPACT_STRINGS" "Z") (by decide +kernel)) (fun _ h9 => h9) dJ0_coder_7d493_0 ?_
  refine lv_if_eq (tgt := 13) hx hb dJ0_coder_7d493_3 (by decide) (fun hc => absurd hc (by decide)) (fun _ => ?_)
  refine lv_aload_n hx hb dJ0_coder_7d493_6 rfl (lv_at hl 0 rfl) ?_
  refine vk_getf hx hb (hG.1.1 i hi).2.1 hS hown (hts (.fieldLink RJ0 15 "java/lang/String" "coder" "B") (by decide +kernel)) (fun _ h9 => h9) dJ0_coder_7d493_7 ?_
  refine lv_goto (tgt := 14) hx hb dJ0_coder_7d493_10 (by decide) ?_
  exact kR _ _ _ _ hP hD hS dJ0_coder_7d493_14
set_option maxRecDepth 100000 in
theorem cs_isLatin1 (l : Launch) (D : va_G) (kc : Nat → ClassId) (adK adV : Nat → Nat) (i : Nat) (hi : i < 8) : MIs l yJ0_isLatin1_aae02 wsJ0_isLatin1_aae02 ({ frames := 0, cells := 0, slots := 0, locals := 0 }) D kc adK adV [.ref (adK i)] [] [] 1 := by
  refine gMs_I (ty := .boolean) (cc := cJ0_isLatin1_aae02) (maxL := 1) (by decide) rfl (Nat.le_of_ble_eq_true rfl) rfl ?_
  intro p e s m below meth c A ls Q hx hb hml hown hts hN hG hK hP hD hA hl kR
  have hS : va_S A s.heap s.heap [] := va_S.rf
  have hl : lv_has ls 1 [(0, .ref (adK i))] := hl
  refine va_gets hx hb hG.2.1 hS hown (hts (.fieldLink RJ0 38 "java/lang/String" "COMPACT_STRINGS" "Z") (by decide +kernel)) (fun _ h9 => h9) dJ0_isLatin1_aae02_0 ?_
  refine lv_if_eq (tgt := 17) hx hb dJ0_isLatin1_aae02_3 (by decide) (fun hc => absurd hc (by decide)) (fun _ => ?_)
  refine lv_aload_n hx hb dJ0_isLatin1_aae02_6 rfl (lv_at hl 0 rfl) ?_
  refine vk_getf hx hb (hG.1.1 i hi).2.1 hS hown (hts (.fieldLink RJ0 15 "java/lang/String" "coder" "B") (by decide +kernel)) (fun _ h9 => h9) dJ0_isLatin1_aae02_7 ?_
  refine lv_if_ne (tgt := 17) hx hb dJ0_isLatin1_aae02_10 (by decide) (fun hc => absurd rfl hc) (fun _ => ?_)
  refine lv_iconst (v := 1) hx hb dJ0_isLatin1_aae02_13 (by decide) ?_
  refine lv_goto (tgt := 18) hx hb dJ0_isLatin1_aae02_14 (by decide) ?_
  exact kR _ _ _ _ hP hD hS dJ0_isLatin1_aae02_18
theorem sLen_lt : ∀ i, i < 8 → sLen.getD i 0 < 8 := by decide
set_option maxRecDepth 100000 in
/-- String.length() -/
theorem cs_length (l : Launch) (D : va_G) (kc : Nat → ClassId) (adK adV : Nat → Nat) (i : Nat) (hi : i < 8) : MIs l yJ0_length_8abf5 wsJ0_length_8abf5 ({ frames := 1, cells := 0, slots := 0, locals := 20 }) D kc adK adV [.ref (adK i)] [] [] (nI (sLen.getD i 0)) := by
  refine gMs_I (ty := .int) (cc := cJ0_length_8abf5) (maxL := 1) (by decide) rfl (Nat.le_of_ble_eq_true rfl) rfl ?_
  intro p e s m below meth c A ls Q hx hb hml hown hts hN hG hK hP hD hA hl kR
  have hS : va_S A s.heap s.heap [] := va_S.rf
  have hl : lv_has ls 1 [(0, .ref (adK i))] := hl
  refine lv_aload_n hx hb dJ0_length_8abf5_0 rfl (lv_at hl 0 rfl) ?_
  refine vk_getf hx hb (hG.1.1 i hi).2.2.1 hS hown (hts (.fieldLink RJ0 9 "java/lang/String" "value" "[B") (by decide +kernel)) (fun _ h9 => h9) dJ0_length_8abf5_1 ?_
  refine va_tlen hx hb (hG.1.1 i hi).2.2.2 hS (v := nI (sLen.getD i 0)) rfl dJ0_length_8abf5_4 ?_
  refine lv_aload_n hx hb dJ0_length_8abf5_5 rfl (lv_at hl 0 rfl) ?_
  refine gs_VI (As := []) (rest := [.int (nI (sLen.getD i 0))]) (ws' := []) ⟨hx, hb, hml, hown, hts⟩ hN hG hK hP hD hS hA (cs_coder l D kc adK adV i hi) (cwV 0 hts gJ0_length_8abf5_J0_coder_7d493 rfl rfl rfl (by decide +kernel) ⟨Nat.le_of_ble_eq_true rfl, Nat.le_of_ble_eq_true rfl⟩) [] [] [] (by exact ⟨rfl, rfl, by decide, rfl⟩) (vk_recv hG.1 hi hS) rfl hl.1 rfl (Nat.le_of_ble_eq_true rfl) dJ0_length_8abf5_6 ⟨Nat.le_refl _, Nat.le_refl _⟩ (fun H locs hP hD hS => ?_)
  refine lv_ishr hx hb dJ0_length_8abf5_9 ?_
  rw [sc_shr0 (by have := sLen_lt i hi; omega)]
  exact kR _ _ _ _ hP hD hS dJ0_length_8abf5_10
set_option maxRecDepth 100000 in
theorem cs_check3 (l : Launch) (D : va_G) (kc : Nat → ClassId) (x n : Int32) (q : Option Nat) (h0 : ¬ x < 0) (h1 : x < n) : MI l yJ3_checkIndex_8e157 wsJ3_checkIndex_8e157 ({ frames := 0, cells := 0, slots := 0, locals := 0 }) D kc [.int x, .int n, va_rf q] [] [] x := by
  refine gM_I (cc := cJ3_checkIndex_8e157) (maxL := 3) (by decide) rfl (by cases q <;> exact Nat.le_of_ble_eq_true rfl) ?_
  intro p e s m below meth c A ls Q hx hb hml hown hts hN hK hP hD hA hl kR
  have hS : va_S A s.heap s.heap [] := va_S.rf
  have hl : lv_has ls 3 [(0, .int x), (1, .int n)] := by cases q <;> exact lv_sub hl [0, 1] rfl
  refine lv_iload_n hx hb dJ3_checkIndex_8e157_0 rfl (lv_at hl 0 rfl) ?_
  refine lv_if_lt (tgt := 9) hx hb dJ3_checkIndex_8e157_1 (by decide) (fun hc => absurd hc h0) (fun _ => ?_)
  refine lv_iload_n hx hb dJ3_checkIndex_8e157_4 rfl (lv_at hl 0 rfl) ?_
  refine lv_iload_n hx hb dJ3_checkIndex_8e157_5 rfl (lv_at hl 1 rfl) ?_
  refine lv_icmp_lt (tgt := 16) hx hb dJ3_checkIndex_8e157_6 (by decide) (fun _ => ?_) (fun hc => absurd h1 hc)
  refine lv_iload_n hx hb dJ3_checkIndex_8e157_16 rfl (lv_at hl 0 rfl) ?_
  exact kR _ _ _ _ hP hD hS dJ3_checkIndex_8e157_17
def MVs (l : Launch) (y : MethodName) (wl : List Cond) (rm : Room) (D : va_G) (kc : Nat → ClassId) (adK adV : Nat → Nat) (av : List Value) (ws ws' : va_W) : Prop := ∀ sz : Nat, Met l y wl rm (va_Pc av (gPreS D kc adK adV ws sz)) (va_Qv (fun (_ : Unit) => True) (fun _ t => gPost D kc (va_A ws sz) ws' t) (va_A ws sz)) 0 0 (va_A ws sz)
set_option maxRecDepth 100000 in
theorem cs_check0 (l : Launch) (D : va_G) (kc : Nat → ClassId) (adK adV : Nat → Nat) (x n : Int32) (h0 : ¬ x < 0) (h1 : x < n) : MVs l yJ0_checkIndex_df160 wsJ0_checkIndex_df160 ({ frames := 1, cells := 0, slots := 0, locals := 22 }) D kc adK adV [.int x, .int n] [] [] := by
  intro sz
  refine Met.ofW (cc := cJ0_checkIndex_df160) (maxL := 2) (ret := none) (by decide) rfl ?_
  intro p e s m args below meth c s₁ B hml hv
  obtain ⟨rfl, ⟨hsz, hP, hK, hD0, hN⟩, hG⟩ := hv
  have hr := B.returns
  have hlocks := B.notSynchronized
  have hx := B.exec
  have hb := B.bytes
  have hts := atoms_spec (ws := wsJ0_checkIndex_df160) B.pre
  have hown : s.vm.findClass RJ0 = some m.cls := findClass_of_methodNamed B.named
  subst hsz
  have hD := hD0.self (sz := s.heap.size)
  have hA : ∀ q : Nat, s.heap.size ≤ q → va_A [] s.heap.size q := fun q h => Or.inr h
  have hS : va_S (va_A [] s.heap.size) s.heap s.heap [] := va_S.rf
  have hl := lv_entry [.int x, .int n] (n := 2) (Nat.le_of_ble_eq_true rfl)
  rw [lg_entry_eq]
  generalize (lg_sl [.int x, .int n] ++ List.replicate (2 - (lg_sl [.int x, .int n]).length) Slot.unset).toArray = ls at hl ⊢
  have hl : lv_has ls 2 [(0, .int x), (1, .int n)] := hl
  refine lv_iload_n hx hb dJ0_checkIndex_df160_0 rfl (lv_at hl 0 rfl) ?_
  refine lv_iload_n hx hb dJ0_checkIndex_df160_1 rfl (lv_at hl 1 rfl) ?_
  have key : ∀ q : Option Nat, va_Z "jdk/internal/util/Preconditions" "SIOOBE_FORMATTER" "Ljava/util/function/BiFunction;" (va_rf q) (va_A [] s.heap.size) s s.heap → W p l e (headSpec wsJ0_checkIndex_df160 ({ frames := 1, cells := 0, slots := 0, locals := 22 })).room s m [Value.int x, .int n].toArray below meth c s.heap [] 0 0 (MQ below (va_Qv (fun (_ : Unit) => True) (fun _ t => gPost D kc (va_A [] s.heap.size) [] t) (va_A [] s.heap.size)) [Value.int x, .int n].toArray s 0 0 (va_A [] s.heap.size)) (F0 m 2 ls [.int n, .int x]) := by
    intro q hZ
    refine va_gets hx hb hZ hS hown (hts (.fieldLink RJ0 1053 "jdk/internal/util/Preconditions" "SIOOBE_FORMATTER" "Ljava/util/function/BiFunction;") (by decide +kernel)) (fun _ h9 => h9) dJ0_checkIndex_df160_2 ?_
    refine g_SI (R := ({ frames := 1, cells := 0, slots := 0, locals := 22 })) (As := [.int x, .int n, va_rf q]) (rest := []) (ws' := []) ⟨hx, hb, hml, hown, hts⟩ hN hK hP hD hS hA (cs_check3 l D kc x n q h0 h1) (va_cwS 3 hts gJ0_checkIndex_df160_J3_checkIndex_8e157 rfl rfl rfl (by decide +kernel) ⟨Nat.le_of_ble_eq_true rfl, Nat.le_of_ble_eq_true rfl⟩) [] [] [] (by exact ⟨rfl, rfl, by decide, rfl⟩) rfl hl.1 rfl (Nat.le_of_ble_eq_true rfl) dJ0_checkIndex_df160_5 ⟨Nat.le_refl _, Nat.le_refl _⟩ (fun H locs hP hD hS => ?_)
    refine lv_pop hx hb dJ0_checkIndex_df160_8 rfl ?_
    exact W.vret hx hb hr (fun t ht hW => ⟨⟨(), rfl, trivial, by rw [ht]; exact hP, va_K.moved hW.alike hK, hD⟩, hS.F ht⟩) hS.2.2 dJ0_checkIndex_df160_9 hlocks
  rcases hG.2.2.1 with h | ⟨t, h⟩
  · exact key none h
  · exact key (some t) h
theorem gs_SV {p : Program} {l : Launch} {e : Env} {R : Room} {s : State} {m : MethodId} {args : Array Value} {below : List Frame} {meth : Method} {c : Code} {H : Heap} {locs : List Loc} {cells slots : Nat} {Q : State → Prop} {A : Nat → Prop} {D : va_G} {kc : Nat → ClassId} {adK adV : Nat → Nat} {ws : va_W} {cc : ByteArray} {nL : Nat} {Ts : List Cond} {own : String} {y : MethodName} {bytes : ByteArray} {maxL : Nat} {ret : Option FieldType} {wl : List Cond} {rm : Room} {n index : Nat} {As rest : List Value} {wc wc' ws' : va_W} {pc : Nat} {ls : Array Slot} {st : List Value} (S : CallFix p m c cc nL s args Ts own) (hN : gN s) (hG : gS adK adV A s s.heap) (hK : va_K D vwCl (tyL kc) s) (hP : va_P D vwCl ws H) (hD : va_D A ws) (hS : va_S A s.heap H locs) (hA : ∀ q : Nat, s.heap.size ≤ q → A q) (hM : MVs l y wl rm D kc adK adV As wc wc') (cw : CallB R s args own index y bytes maxL ret wl rm 0 0 n ∧ (Cond.static y).before args s = true) (isC isR pm : List Nat) (hcut : gCut ws wc wc' ws' isC isR pm) (hn : As.length = n) (hsize : ls.size = nL) (hst : st = As.reverse ++ rest) (hW : (rest.map fun v => v.category).sum ≤ 8) (hdg : decode cc pc = .ok (.invokestatic index, 3)) (hf : cells + 0 ≤ R.cells ∧ slots + 0 ≤ R.slots)
    (kk : ∀ (H1 : Heap) (locs1 : List Loc), va_P D vwCl ws' H1 → va_D A ws' → va_S A s.heap H1 locs1 → W p l e R s m args below meth c H1 locs1 cells slots Q (F0 m (pc + 3) ls rest)) : W p l e R s m args below meth c H locs cells slots Q (F0 m pc ls st) := by
  have h3 := hcut.2.2.1
  simp only [Bool.and_eq_true] at h3
  have hPc : va_P D vwCl wc H := hP.sub isC (fm_of_map _ _ _ hcut.1)
  have hDc : va_D A wc := hD.sub isC h3.1.1.1 hcut.1
  have hFc := va_free (wc := wc) hD hS hA isC hcut.1
  refine va_callv (va_runS (As := As) (rest := rest) S (hM H.size) cw ⟨gPreS_blind _ _ _ _ _ _ _, fun U hU hW9 => ⟨rfl, ⟨by rw [hU], by rw [hU]; exact hPc, va_K.moved hW9.alike hK, hDc.weaken (fun _ _ _ _ => trivial), gN.warm hW9 hN⟩, hG.at hS hFc hU hW9⟩⟩ rfl hn hsize hst (lv_room hW) hdg hf) hS (fun q _ h => hFc q h) hFc (fun u t H1 locs1 ht hvm hw hB hz1 hk1 hS1 => ?_)
  obtain ⟨hP1, hK1, hD1⟩ := hB
  rw [ht] at hP1
  obtain ⟨hP2, hD2⟩ := g_world hP hD hcut hk1 hFc hP1 hD1
  exact kk H1 locs1 hP2 hD2 hS1
theorem sCh_narrow (i : Nat) (k : Int32) : narrow .char (.int (sCh i k)) = .int (sCh i k) := by
  have h : sCh i k = (sByt.getD i []).getD k.toNatClampNeg 0 &&& 255 := sc_c2 _
  rw [h]; exact sc_nar _
set_option maxRecDepth 100000 in
theorem cs_charAt1 (l : Launch) (D : va_G) (kc : Nat → ClassId) (adK adV : Nat → Nat) (i : Nat) (hi : i < 8) (k : Int32) (hk : vp_in k (sLen.getD i 0)) : MIs l yJ1_charAt_3b067 wsJ1_charAt_3b067 ({ frames := 2, cells := 0, slots := 0, locals := 43 }) D kc adK adV [.ref (adV i), .int k] [] [] (sCh i k) := by
  refine gMs_I (ty := .char) (cc := cJ1_charAt_3b067) (maxL := 2) (by decide) rfl (Nat.le_of_ble_eq_true rfl) (sCh_narrow i k) ?_
  intro p e s m below meth c A ls Q hx hb hml hown hts hN hG hK hP hD hA hl kR
  have hS : va_S A s.heap s.heap [] := va_S.rf
  have hl : lv_has ls 2 [(0, .ref (adV i)), (1, .int k)] := hl
  obtain ⟨j, hj, ek⟩ := vp_in_of hk (by have := sLen_lt i hi; omega)
  have h0 : ¬ k < 0 := fun h => hk (Or.inl h)
  have h1 : k < nI (sLen.getD i 0) := by rw [ek]; exact nI_lt hj (by have := sLen_lt i hi; omega)
  refine lv_iload_n hx hb dJ1_charAt_3b067_0 rfl (lv_at hl 1 rfl) ?_
  refine lv_aload_n hx hb dJ1_charAt_3b067_1 rfl (lv_at hl 0 rfl) ?_
  refine va_tlen hx hb (hG.1.1 i hi).2.2.2 hS (v := nI (sLen.getD i 0)) rfl dJ1_charAt_3b067_2 ?_
  refine gs_SV (As := [.int k, .int (nI (sLen.getD i 0))]) (rest := []) (ws' := []) ⟨hx, hb, hml, hown, hts⟩ hN hG hK hP hD hS hA (cs_check0 l D kc adK adV k (nI (sLen.getD i 0)) h0 h1) (va_cwS 2 hts gJ1_charAt_3b067_J0_checkIndex_df160 rfl rfl rfl (by decide +kernel) ⟨Nat.le_of_ble_eq_true rfl, Nat.le_of_ble_eq_true rfl⟩) [] [] [] (by exact ⟨rfl, rfl, by decide, rfl⟩) rfl hl.1 rfl (Nat.le_of_ble_eq_true rfl) dJ1_charAt_3b067_3 ⟨Nat.le_refl _, Nat.le_refl _⟩ (fun H locs hP hD hS => ?_)
  refine lv_aload_n hx hb dJ1_charAt_3b067_6 rfl (lv_at hl 0 rfl) ?_
  refine lv_iload_n hx hb dJ1_charAt_3b067_7 rfl (lv_at hl 1 rfl) ?_
  refine va_tb hx hb (hG.1.1 i hi).2.2.2 hS hk (v := .int ((sByt.getD i []).getD k.toNatClampNeg 0)) rfl dJ1_charAt_3b067_8 ?_
  refine lv_sipush (v := 255) hx hb dJ1_charAt_3b067_9 (by decide) ?_
  refine lv_iand hx hb dJ1_charAt_3b067_12 ?_
  refine lv_i2c (v := sCh i k) hx hb dJ1_charAt_3b067_13 rfl ?_
  exact kR _ _ _ _ hP hD hS dJ1_charAt_3b067_14
set_option maxRecDepth 100000 in
/-- String.charAt(k) -/
theorem cs_charAt (l : Launch) (D : va_G) (kc : Nat → ClassId) (adK adV : Nat → Nat) (i : Nat) (hi : i < 8) (k : Int32) (hk : vp_in k (sLen.getD i 0)) : MIs l yJ0_charAt_5068e wsJ0_charAt_5068e ({ frames := 3, cells := 0, slots := 0, locals := 64 }) D kc adK adV [.ref (adK i), .int k] [] [] (sCh i k) := by
  refine gMs_I (ty := .char) (cc := cJ0_charAt_5068e) (maxL := 2) (by decide) rfl (Nat.le_of_ble_eq_true rfl) (sCh_narrow i k) ?_
  intro p e s m below meth c A ls Q hx hb hml hown hts hN hG hK hP hD hA hl kR
  have hS : va_S A s.heap s.heap [] := va_S.rf
  have hl : lv_has ls 2 [(0, .ref (adK i)), (1, .int k)] := hl
  refine lv_aload_n hx hb dJ0_charAt_5068e_0 rfl (lv_at hl 0 rfl) ?_
  refine gs_VI (As := []) (rest := []) (ws' := []) ⟨hx, hb, hml, hown, hts⟩ hN hG hK hP hD hS hA (cs_isLatin1 l D kc adK adV i hi) (cwV 0 hts gJ0_charAt_5068e_J0_isLatin1_aae02 rfl rfl rfl (by decide +kernel) ⟨Nat.le_of_ble_eq_true rfl, Nat.le_of_ble_eq_true rfl⟩) [] [] [] (by exact ⟨rfl, rfl, by decide, rfl⟩) (vk_recv hG.1 hi hS) rfl hl.1 rfl (Nat.le_of_ble_eq_true rfl) dJ0_charAt_5068e_1 ⟨Nat.le_refl _, Nat.le_refl _⟩ (fun H locs hP hD hS => ?_)
  refine lv_if_eq (tgt := 16) hx hb dJ0_charAt_5068e_4 (by decide) (fun hc => absurd hc (by decide)) (fun _ => ?_)
  refine lv_aload_n hx hb dJ0_charAt_5068e_7 rfl (lv_at hl 0 rfl) ?_
  refine vk_getf hx hb (hG.1.1 i hi).2.2.1 hS hown (hts (.fieldLink RJ0 9 "java/lang/String" "value" "[B") (by decide +kernel)) (fun _ h9 => h9) dJ0_charAt_5068e_8 ?_
  refine lv_iload_n hx hb dJ0_charAt_5068e_11 rfl (lv_at hl 1 rfl) ?_
  refine gs_SI (As := [.ref (adV i), .int k]) (rest := []) (ws' := []) ⟨hx, hb, hml, hown, hts⟩ hN hG hK hP hD hS hA (cs_charAt1 l D kc adK adV i hi k hk) (va_cwS 2 hts gJ0_charAt_5068e_J1_charAt_3b067 rfl rfl rfl (by decide +kernel) ⟨Nat.le_of_ble_eq_true rfl, Nat.le_of_ble_eq_true rfl⟩) [] [] [] (by exact ⟨rfl, rfl, by decide, rfl⟩) rfl hl.1 rfl (Nat.le_of_ble_eq_true rfl) dJ0_charAt_5068e_12 ⟨Nat.le_refl _, Nat.le_refl _⟩ (fun H locs hP hD hS => ?_)
  exact kR _ _ _ _ hP hD hS dJ0_charAt_5068e_15
