/-- a state that nothing has begun -/
abbrev iSV : SV := (0, -2, 0, 0, 0, 0, 0, (fun _ => 0), (fun _ => 0), (fun _ => 0), (fun _ => 0), (fun _ => 0), (fun _ => 0), (fun _ => 0), (fun _ => 0), (fun _ => 0), (fun _ => 0), (fun _ => 0))
abbrev iGV : GV := (0, 0, 0, 8, 0, 1, 0, 0, (fun _ => 0), (fun _ => 0), (fun _ => 0), (fun _ => 0), (fun _ => 0), (fun _ => 0), (fun _ => 0), (fun _ => 0), (fun _ => 0), (fun _ => 0), (fun _ => 0), (fun _ => 0), (fun _ => 0))
abbrev iSC (day_ : Int32) (wind_ : Int32) (loft_ : Int32) (lost_ : Int32) (lc_ : Int32) (ds_ : Int64) (jc_ : Int32) (bst_ : Nat → Int32) (br_ : Nat → Int32) (cg_ : Nat → Int32) (lt_ : Nat → Int32) (an_ : Nat → Int32) (ho_ : Nat → Int32) (du_ : Nat → Int32) : SC := ((0, -2, 0, 0, (fun _ => 0), 0, 0, 0, 0, 0, 0, 0, 0, 0, (fun _ => 0), (fun _ => 0), 0, 0, 0, (fun _ => 0), (fun _ => 0), (fun _ => 0), (fun _ => 0), (fun _ => 0)), (day_, wind_, loft_, lost_, lc_, ds_, jc_, (fun _ => 0), (fun _ => 0), (fun _ => 0), bst_, br_, cg_, lt_, an_, ho_, du_, (fun _ => 0)), iGV, iGV, (fun _ => iSV), (fun _ => iSV))
abbrev iSM (now_ sv_ : Nat → Int32) : SM := (0, 8, 0, 1, 0, 0, 0, 0, 0, 0, 0, 0, 0, 0, -2, 0, 0, now_, (fun _ => 0), (fun _ => 0), (fun _ => 0), (fun _ => 0), (fun _ => 0), (fun _ => 0), (fun _ => 0), (fun _ => 0), (fun _ => 0), (fun _ => 0), (fun _ => 0), (fun _ => 0), (fun _ => 0), (fun _ => 0), (fun _ => 0), (fun _ => 0), (fun _ => 0), (fun _ => 0), (fun _ => 0), (fun _ => 0), (fun _ => 0), (fun _ => 0), (fun _ => 0), (fun _ => 0), (fun _ => 0), (fun _ => 0), sv_)
def iG : Nat → Nat → Nat := fun a b => if a = 0 then (if b = 5 then 8 else if b = 7 then 1 else 0) else 0
theorem iG_wf : WF iG := by
  refine ⟨⟨by decide, by decide, by decide, by decide, by decide, by decide, Or.inr rfl, by decide⟩, fun k hk => absurd hk (Nat.not_lt_zero k), ⟨fun w hw => absurd hw (Nat.not_lt_zero w), fun w k hw => absurd hw (Nat.not_lt_zero w), fun w k j hw => absurd hw (Nat.not_lt_zero w), fun w hw => absurd hw (Nat.not_lt_zero w)⟩, ⟨fun k hk => absurd hk (Nat.not_lt_zero k), fun k j hk => absurd hk (Nat.not_lt_zero k), fun w => ?_⟩, fun b hb => absurd hb (Nat.not_lt_zero b), fun k hk => absurd hk (Nat.not_lt_zero k)⟩
  show sm 0 _ ≤ 10
  rw [sm_0]; omega
theorem iRel : ∃ (day_ : Int32) (wind_ : Int32) (loft_ : Int32) (lost_ : Int32) (lc_ : Int32) (ds_ : Int64) (jc_ : Int32) (bst_ : Nat → Int32) (br_ : Nat → Int32) (cg_ : Nat → Int32) (lt_ : Nat → Int32) (an_ : Nat → Int32) (ho_ : Nat → Int32) (du_ : Nat → Int32) (now_ sv_ : Nat → Int32), f_X6_begin 5000 (fun _ => 0) (fun _ => 0) (fun _ => 0) (fun _ => 0) 0 8 0 1 (fun _ => 0) (fun _ => 0) (fun _ => 0) 0 = some (day_, wind_, loft_, lost_, lc_, ds_, jc_, bst_, br_, cg_, lt_, an_, ho_, du_) ∧ f_X9_begins 5000 8 0 1 (fun _ => 0) (fun _ => 0) (fun _ => 0) = some (0, now_, sv_) ∧ Rel 0 (iSC day_ wind_ loft_ lost_ lc_ ds_ jc_ bst_ br_ cg_ lt_ an_ ho_ du_) (iSM now_ sv_) := by
  obtain ⟨day_, wind_, loft_, lost_, lc_, ds_, jc_, bst_, br_, cg_, lt_, an_, ho_, du_, now_, sv_, h1, h2, h3, h4, h5⟩ := e_begin (G := iG) (T := 0) (N := 5000) (bst := fun _ => 0) (br := fun _ => 0) (cg := fun _ => 0) (lt := fun _ => 0) (an := fun _ => 0) (ho := fun _ => 0) (du := fun _ => 0) (mNow := fun _ => 0) (winds := fun _ => 0) (isSaved := fun _ => 0) (jk := fun _ => 0) (jn := fun _ => 0) (jd := fun _ => 0) (la := fun _ => 0) (lt2 := 0) (lf2 := 8) (st2 := 0) (sd2 := 1) (ct2 := 0) (sw := 0) (lf := 8) (sd := 1) (by omega) iG_wf rfl rfl rfl rfl rfl rfl rfl rfl rfl
  refine ⟨day_, wind_, loft_, lost_, lc_, ds_, jc_, bst_, br_, cg_, lt_, an_, ho_, du_, now_, sv_, h1, h2, ?_⟩
  refine ⟨iG, 0, 0, 0, iG_wf, ?_, ?_, h3, Or.inl rfl, ⟨Nat.zero_le _, rfl, rfl, fun k hk => absurd hk (Nat.not_lt_zero k)⟩, rfl, ⟨rfl, rfl, rfl, Nat.zero_le _, by decide, fun i hi => absurd hi (Nat.not_lt_zero i)⟩, ?_⟩
  · exact ⟨⟨rfl, rfl, rfl, rfl, rfl, rfl, rfl, rfl⟩, fun k hk => absurd hk (Nat.not_lt_zero k), fun b hb => absurd hb (Nat.not_lt_zero b), fun k hk => absurd hk (Nat.not_lt_zero k), fun k hk => absurd hk (Nat.not_lt_zero k), fun w v hw => absurd hw (Nat.not_lt_zero w), fun w r hw => absurd hw (Nat.not_lt_zero w), fun w hw => absurd hw (Nat.not_lt_zero w), fun w k hw => absurd hw (Nat.not_lt_zero w)⟩
  · exact ⟨⟨rfl, rfl, rfl, rfl, rfl, rfl, rfl, rfl⟩, fun k hk => absurd hk (Nat.not_lt_zero k), fun b hb => absurd hb (Nat.not_lt_zero b), fun k hk => absurd hk (Nat.not_lt_zero k), fun k hk => absurd hk (Nat.not_lt_zero k), fun w hw => absurd hw (Nat.not_lt_zero w), fun w k hw => absurd hw (Nat.not_lt_zero w)⟩
  · intro s hs
    rcases (show s = 0 ∨ s = 1 by omega) with rfl | rfl
    · exact Or.inl ⟨rfl, h4⟩
    · exact Or.inl ⟨rfl, h5⟩
theorem plB_W {kc : Nat → ClassId} {ads : Nat → Nat → Nat} : ∀ n : Nat, plB kc ads [] n = plW kc ads (fun _ => iSV) n
  | 0 => rfl
  | n + 1 => by rw [plB, plW, plB_W n]
def caI (h0 : Nat) (u : Nat → Nat) : Nat → Nat := fun i => ([h0, u 2, u 3, u 5, u 6, u 7, u 8, u 9, u 10, u 11, u 12, u 13, u 47, u 48, u 14, u 15, u 16, u 49, u 50, u 51, u 52, u 54, u 55, u 56, u 17, u 0, u 1, u 18, u 53, u 57, u 19, u 20, u 21, u 22, u 23, u 24, u 25, u 26, u 27, u 28, u 29, u 30, u 31, u 32, u 33, u 34, u 35, u 36, u 37, u 38, u 39, u 40, u 41, u 42, u 43, u 44, u 45, u 46, u 4] : List Nat).getD i 0
def maI (h9 : Nat) (u : Nat → Nat) : Nat → Nat
  | 0 => h9
  | k + 1 => u k
set_option maxRecDepth 100000 in
set_option maxHeartbeats 8000000 in
theorem iWorld {A : Nat → Prop} {D : va_G} {kc : Nat → ClassId} {h0 h9 oa : Nat} {day_ : Int32} {wind_ : Int32} {loft_ : Int32} {lost_ : Int32} {lc_ : Int32} {ds_ : Int64} {jc_ : Int32} {bst_ : Nat → Int32} {br_ : Nat → Int32} {cg_ : Nat → Int32} {lt_ : Nat → Int32} {an_ : Nat → Int32} {ho_ : Nat → Int32} {du_ : Nat → Int32} {now_ sv_ : Nat → Int32} {h1fn h2fn : Nat → Option Nat} {u u9 : Nat → Nat} {ads1 ads2 : Nat → Nat → Nat} {H : Heap} (e1 : ∀ j, h1fn j = if j < 12 then some (ads1 j 0) else none) (e2 : ∀ j, h2fn j = if j < 2 then some (ads2 j 0) else none)
    (hP : va_P D vwCl ((n_X9 kc h9 0 now_ sv_ u9 ++ (n_X8 kc h0 day_ wind_ loft_ lost_ lc_ ds_ jc_ bst_ br_ cg_ lt_ an_ ho_ du_ h1fn h2fn u ++ (plB kc ads2 [] 2 ++ plB kc ads1 [] 12))) ++ [(oa, .inl (kc 2, 1, .inr (.inl (fun _ => 0))))]) H)
    (hD : va_D A ((n_X9 kc h9 0 now_ sv_ u9 ++ (n_X8 kc h0 day_ wind_ loft_ lost_ lc_ ds_ jc_ bst_ br_ cg_ lt_ an_ ho_ du_ h1fn h2fn u ++ (plB kc ads2 [] 2 ++ plB kc ads1 [] 12))) ++ [(oa, .inl (kc 2, 1, .inr (.inl (fun _ => 0))))])) :
    va_P D vwCl (wC kc (caI h0 u) ads1 ads2 (iSC day_ wind_ loft_ lost_ lc_ ds_ jc_ bst_ br_ cg_ lt_ an_ ho_ du_) ++ (wM kc (maI h9 u9) (iSM now_ sv_) ++ wR kc ads1 ads2 oa (iSC day_ wind_ loft_ lost_ lc_ ds_ jc_ bst_ br_ cg_ lt_ an_ ho_ du_) (fun _ => 0))) H ∧ va_D A (wC kc (caI h0 u) ads1 ads2 (iSC day_ wind_ loft_ lost_ lc_ ds_ jc_ bst_ br_ cg_ lt_ an_ ho_ du_) ++ (wM kc (maI h9 u9) (iSM now_ sv_) ++ wR kc ads1 ads2 oa (iSC day_ wind_ loft_ lost_ lc_ ds_ jc_ bst_ br_ cg_ lt_ an_ ho_ du_) (fun _ => 0))) := by
  obtain rfl : h1fn = rfn ads1 12 := funext e1
  obtain rfl : h2fn = rfn ads2 2 := funext e2
  rw [plB_W, plB_W] at hP hD
  have e3 : n_X9 kc h9 0 now_ sv_ u9 = wM kc (maI h9 u9) (iSM now_ sv_) := rfl
  rw [e3] at hP hD
  have pm : ∀ (X Y S B : va_W) (o : Nat × va_E), List.Perm ((Y ++ (X ++ (S ++ B))) ++ [o]) (X ++ (Y ++ (o :: (B ++ S)))) := by
    intro X Y S B o
    have a1 : List.Perm ((Y ++ (X ++ (S ++ B))) ++ [o]) (o :: (Y ++ (X ++ (S ++ B)))) := List.perm_append_comm
    have a2 : List.Perm (Y ++ (X ++ (S ++ B))) (X ++ (Y ++ (B ++ S))) := by
      have b1 : List.Perm ((Y ++ X) ++ (S ++ B)) ((X ++ Y) ++ (B ++ S)) := List.Perm.append List.perm_append_comm List.perm_append_comm
      rw [List.append_assoc, List.append_assoc] at b1
      exact b1
    have a3 : List.Perm (X ++ (Y ++ (o :: (B ++ S)))) (o :: (X ++ (Y ++ (B ++ S)))) := by
      rw [← List.append_assoc, ← List.append_assoc]
      exact List.perm_middle
    exact (a1.trans (List.Perm.cons o a2)).trans a3.symm
  have hP := pm_P (pm _ _ _ _ _) hP
  have hD := pm_D (pm _ _ _ _ _) hD
  exact pX (pm := [0, 3, 4, 6, 7, 8, 9, 10, 11, 12, 13, 14, 48, 49, 15, 16, 17, 50, 51, 52, 53, 55, 56, 57, 18, 1, 2, 19, 54, 58, 20, 21, 22, 23, 24, 25, 26, 27, 28, 29, 30, 31, 32, 33, 34, 35, 36, 37, 38, 39, 40, 41, 42, 43, 44, 45, 46, 47]) rfl (by decide +kernel) hP hD
