theorem pm_out {A M Z : va_W} {o : Nat × va_E} : (A ++ (M ++ (o :: Z))).Perm ((A ++ [o]) ++ (M ++ Z)) := by
  rw [List.append_assoc A [o]]
  exact List.Perm.append_left A List.perm_middle
set_option maxHeartbeats 1000000 in
theorem gq_SX {p : Program} {l : Launch} {e : Env} {R : Room} {s : State} {m : MethodId} {args : Array Value} {below : List Frame} {meth : Method} {c : Code} {H : Heap} {locs : List Loc} {cells slots : Nat} {Q : State → Prop} {A : Nat → Prop} {D : va_G} {kc : Nat → ClassId} {sa : Nat} {X pl : va_W} {cc : ByteArray} {nL : Nat} {Ts : List Cond} {own : String} {y : MethodName} {bytes : ByteArray} {maxL : Nat} {ret : Option FieldType} {wl : List Cond} {rm : Room} {n index : Nat} {As rest : List Value} {wc : va_W} {wcf Xf : (Nat → Int64) → va_W} {post : Int32 → (Nat → Int64) → Prop} {pc : Nat} {ls : Array Slot} {st : List Value} (S : CallFix p m c cc nL s args Ts own) (hN : gN s) (hXx : gX sa A s s.heap) (hK : va_K D vwCl (tyL kc) s) (hP : va_P D vwCl (X ++ pl) H) (hD : va_D A (X ++ pl)) (hS : va_S A s.heap H locs) (hA : ∀ q : Nat, s.heap.size ≤ q → A q) (hM : ∀ sz : Nat, Met l y wl rm (va_Pc As (gPreX D kc sa wc sz)) (va_Qi post (fun o' t => gPost D kc (va_A wc sz) (wcf o') t) (va_A wc sz)) 1 6 (va_A wc sz)) {hh : List (Nat × Nat × Nat × Nat)} (cw : vx_CSW R s args own index y bytes maxL ret hh wl rm 1 6 n) (isC : List Nat) (hcut : ∀ o', gCutS X wc (wcf o') (Xf o') isC) (hn : As.length = n) (hsize : ls.size = nL) (hst : st = As.reverse ++ rest) (hW : (rest.map fun v => v.category).sum ≤ 8) (hdg : decode cc pc = .ok (.invokestatic index, 3)) (hf : cells + 1 ≤ R.cells ∧ slots + 6 ≤ R.slots)
    (kk : ∀ (r' : Int32) (o' : Nat → Int64) (H1 : Heap) (locs1 : List Loc), post r' o' → va_P D vwCl (Xf o' ++ pl) H1 → va_D A (Xf o' ++ pl) → va_S A s.heap H1 locs1 → W p l e R s m args below meth c H1 locs1 (cells + 1) (slots + 6) Q (F0 m (pc + 3) ls (.int r' :: rest))) : W p l e R s m args below meth c H locs cells slots Q (F0 m pc ls st) := by
  have c2 := (hcut (fun _ => 0)).2.1
  have c1 := (hcut (fun _ => 0)).1
  simp only [Bool.and_eq_true] at c2
  have hPX := (pX_P hP).1
  have hDX := (pX_D hD).1
  have hPc : va_P D vwCl wc H := hPX.sub isC (fm_of_map _ _ _ c1)
  have hDc : va_D A wc := hDX.sub isC c2.1 c1
  have hFc := va_free (wc := wc) hDX hS hA isC c1
  refine va_calli (vx_runSW (As := As) (rest := rest) S (hM H.size) cw ⟨gPreX_blind _ _ _ _ _ _, fun U hU hW9 => ⟨rfl, ⟨by rw [hU], by rw [hU]; exact hPc, va_K.moved hW9.alike hK, hDc.weaken (fun _ _ _ _ => trivial), gN.warm hW9 hN⟩, hXx.at hS hFc hU hW9⟩⟩ rfl hn hsize hst (lv_room hW) hdg hf) hS (fun q _ h => hFc q h) hFc (fun r' u t H1 locs1 ht hvm hw hB hz1 hk1 hS1 => ?_)
  obtain ⟨hP1, hK1, hD1⟩ := hB
  rw [ht] at hP1
  obtain ⟨hP3, hD3⟩ := gS_world hP hD (hcut u) hk1 hFc hP1 hD1
  exact kk r' u H1 locs1 hw hP3 hD3 hS1
