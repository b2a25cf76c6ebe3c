theorem pm_blkH {A M P B R S : va_W} {o : Nat × va_E} (h : P.Perm (B ++ R)) : (A ++ (M ++ (o :: (P ++ S)))).Perm ((A ++ B) ++ (M ++ (o :: (R ++ S)))) := by
  have h1 : (M ++ (o :: (P ++ S))).Perm ((M ++ [o]) ++ (B ++ (R ++ S))) := by
    rw [show M ++ (o :: (P ++ S)) = (M ++ [o]) ++ (P ++ S) by simp, ← List.append_assoc B R S]
    exact List.Perm.append_left _ (List.Perm.append_right _ h)
  have h2 := h1.trans (List.perm_append_comm_assoc (M ++ [o]) B (R ++ S))
  rw [List.append_assoc A B]
  refine List.Perm.append_left A (h2.trans ?_)
  rw [show (M ++ [o]) ++ (R ++ S) = M ++ (o :: (R ++ S)) by simp]
theorem pm_blkS {A M P B R S : va_W} {o : Nat × va_E} (h : S.Perm (B ++ R)) : (A ++ (M ++ (o :: (P ++ S)))).Perm ((A ++ B) ++ (M ++ (o :: (P ++ R)))) := by
  have h1 : (M ++ (o :: (P ++ S))).Perm ((M ++ (o :: P)) ++ (B ++ R)) := by
    rw [show M ++ (o :: (P ++ S)) = (M ++ (o :: P)) ++ S by simp]
    exact List.Perm.append_left _ h
  have h2 := h1.trans (List.perm_append_comm_assoc (M ++ (o :: P)) B R)
  rw [List.append_assoc A B]
  refine List.Perm.append_left A (h2.trans ?_)
  rw [show (M ++ (o :: P)) ++ R = M ++ (o :: (P ++ R)) by simp]
