theorem and63 (y : Int32) : ∃ k, k < 64 ∧ y &&& 63 = nI k := by
  refine ⟨(y &&& 63).toBitVec.toNat, ?_, ?_⟩
  · rw [Int32.toBitVec_and, BitVec.toNat_and]
    exact Nat.lt_of_le_of_lt Nat.and_le_right (by decide)
  · apply Int32.toBitVec_inj.mp
    show (y &&& 63).toBitVec = BitVec.ofNat 32 (y &&& 63).toBitVec.toNat
    rw [BitVec.ofNat_toNat, BitVec.setWidth_eq]
/-- the law's switch -/
def fsw (N : Nat) (xs : Nat → Int32) (L : Nat) (K : SC → SM → Option Unit) (i : Int32) (sC : SC) (sM : SM) : Nat → Option Unit
  | 0 => fop_append N xs L K i sC sM
  | 1 => fop_parse N xs L K i sC sM
  | 2 => fop_errorPosition N xs L K i sC sM
  | 3 => fop_regionCount N xs L K i sC sM
  | 4 => fop_windCount N xs L K i sC sM
  | 5 => fop_balloonCount N xs L K i sC sM
  | 6 => fop_letterCount N xs L K i sC sM
  | 7 => fop_capacity N xs L K i sC sM
  | 8 => fop_letterWeight N xs L K i sC sM
  | 9 => fop_windChance N xs L K i sC sM
  | 10 => fop_avoidChance N xs L K i sC sM
  | 11 => fop_landingChance N xs L K i sC sM
  | 12 => fop_deliveryChance N xs L K i sC sM
  | 13 => fop_answerChance N xs L K i sC sM
  | 14 => fop_answerPermille N xs L K i sC sM
  | 15 => fop_bestDay N xs L K i sC sM
  | 16 => fop_assignmentTotal N xs L K i sC sM
  | 17 => fop_assignedDay N xs L K i sC sM
  | 18 => fop_bestLoad N xs L K i sC sM
  | 19 => fop_weightOf N xs L K i sC sM
  | 20 => fop_priorityOf N xs L K i sC sM
  | 21 => fop_lettersIn N xs L K i sC sM
  | 22 => fop_day N xs L K i sC sM
  | 23 => fop_wind N xs L K i sC sM
  | 24 => fop_launch N xs L K i sC sM
  | 25 => fop_nextDay N xs L K i sC sM
  | 26 => fop_balloonState N xs L K i sC sM
  | 27 => fop_balloonRegion N xs L K i sC sM
  | 28 => fop_cargo N xs L K i sC sM
  | 29 => fop_letterState N xs L K i sC sM
  | 30 => fop_answerDay N xs L K i sC sM
  | 31 => fop_pigeonsInLoft N xs L K i sC sM
  | 32 => fop_pigeonsOnTheWay N xs L K i sC sM
  | 33 => fop_pigeonsLost N xs L K i sC sM
  | 34 => fop_nextReturn N xs L K i sC sM
  | 35 => fop_weightIn N xs L K i sC sM
  | 36 => fop_answeredPriority N xs L K i sC sM
  | 37 => fop_balloonsIn N xs L K i sC sM
  | 38 => fop_eventCount N xs L K i sC sM
  | 39 => fop_eventKind N xs L K i sC sM
  | 40 => fop_eventNumber N xs L K i sC sM
  | 41 => fop_eventDay N xs L K i sC sM
  | 42 => fop_undo N xs L K i sC sM
  | 43 => fop_undoDepth N xs L K i sC sM
  | 44 => fop_saveSnapshot N xs L K i sC sM
  | 45 => fop_restoreSnapshot N xs L K i sC sM
  | _ => K sC sM
/-- the law's loop -/
def flaw (N : Nat) (xs : Nat → Int32) (L : Nat) : Nat → Int32 → SC → SM → Option Unit
  | 0, _, _, _ => none
  | n + 1, i, sC, sM => if nI L - 6 < i then some () else gIx i L (fsw N xs L (fun a b => flaw N xs L n (i + 6) a b) i sC sM ((xs i.toNatClampNeg) &&& 63).toNatClampNeg)
theorem fsw_ok {N T L j : Nat} {xs : Nat → Int32} {K : SC → SM → Option Unit} {sC : SC} {sM : SM} (hN : 3000 < N) (hN2 : N < 2 ^ 31) (hT : T ≤ 1000) (hL : L ≤ 3072) (hj : j + 6 ≤ L) (h : Rel T sC sM) (hK : ∀ sC' sM', Rel (T + 1) sC' sM' → K sC' sM' = some ()) : ∀ k : Nat, fsw N xs L K (nI j) sC sM k = some ()
  | 0 => p_append (xs := xs) hN hN2 hT hL hj h hK
  | 1 => p_parse (xs := xs) hN hN2 hT hL hj h hK
  | 2 => p_errorPosition (xs := xs) hN hN2 hT hL hj h hK
  | 3 => p_regionCount (xs := xs) hN hN2 hT hL hj h hK
  | 4 => p_windCount (xs := xs) hN hN2 hT hL hj h hK
  | 5 => p_balloonCount (xs := xs) hN hN2 hT hL hj h hK
  | 6 => p_letterCount (xs := xs) hN hN2 hT hL hj h hK
  | 7 => p_capacity (xs := xs) hN hN2 hT hL hj h hK
  | 8 => p_letterWeight (xs := xs) hN hN2 hT hL hj h hK
  | 9 => p_windChance (xs := xs) hN hN2 hT hL hj h hK
  | 10 => p_avoidChance (xs := xs) hN hN2 hT hL hj h hK
  | 11 => p_landingChance (xs := xs) hN hN2 hT hL hj h hK
  | 12 => p_deliveryChance (xs := xs) hN hN2 hT hL hj h hK
  | 13 => p_answerChance (xs := xs) hN hN2 hT hL hj h hK
  | 14 => p_answerPermille (xs := xs) hN hN2 hT hL hj h hK
  | 15 => p_bestDay (xs := xs) hN hN2 hT hL hj h hK
  | 16 => p_assignmentTotal (xs := xs) hN hN2 hT hL hj h hK
  | 17 => p_assignedDay (xs := xs) hN hN2 hT hL hj h hK
  | 18 => p_bestLoad (xs := xs) hN hN2 hT hL hj h hK
  | 19 => p_weightOf (xs := xs) hN hN2 hT hL hj h hK
  | 20 => p_priorityOf (xs := xs) hN hN2 hT hL hj h hK
  | 21 => p_lettersIn (xs := xs) hN hN2 hT hL hj h hK
  | 22 => p_day (xs := xs) hN hN2 hT hL hj h hK
  | 23 => p_wind (xs := xs) hN hN2 hT hL hj h hK
  | 24 => p_launch (xs := xs) hN hN2 hT hL hj h hK
  | 25 => p_nextDay (xs := xs) hN hN2 hT hL hj h hK
  | 26 => p_balloonState (xs := xs) hN hN2 hT hL hj h hK
  | 27 => p_balloonRegion (xs := xs) hN hN2 hT hL hj h hK
  | 28 => p_cargo (xs := xs) hN hN2 hT hL hj h hK
  | 29 => p_letterState (xs := xs) hN hN2 hT hL hj h hK
  | 30 => p_answerDay (xs := xs) hN hN2 hT hL hj h hK
  | 31 => p_pigeonsInLoft (xs := xs) hN hN2 hT hL hj h hK
  | 32 => p_pigeonsOnTheWay (xs := xs) hN hN2 hT hL hj h hK
  | 33 => p_pigeonsLost (xs := xs) hN hN2 hT hL hj h hK
  | 34 => p_nextReturn (xs := xs) hN hN2 hT hL hj h hK
  | 35 => p_weightIn (xs := xs) hN hN2 hT hL hj h hK
  | 36 => p_answeredPriority (xs := xs) hN hN2 hT hL hj h hK
  | 37 => p_balloonsIn (xs := xs) hN hN2 hT hL hj h hK
  | 38 => p_eventCount (xs := xs) hN hN2 hT hL hj h hK
  | 39 => p_eventKind (xs := xs) hN hN2 hT hL hj h hK
  | 40 => p_eventNumber (xs := xs) hN hN2 hT hL hj h hK
  | 41 => p_eventDay (xs := xs) hN hN2 hT hL hj h hK
  | 42 => p_undo (xs := xs) hN hN2 hT hL hj h hK
  | 43 => p_undoDepth (xs := xs) hN hN2 hT hL hj h hK
  | 44 => p_saveSnapshot (xs := xs) hN hN2 hT hL hj h hK
  | 45 => p_restoreSnapshot (xs := xs) hN hN2 hT hL hj h hK
  | _ + 46 => hK _ _ (h.mono (Nat.le_succ T))
theorem flaw_ok {N L : Nat} {xs : Nat → Int32} (hN : 3000 < N) (hN2 : N < 2 ^ 31) (hL : L ≤ 3072) : ∀ (n j T : Nat) (sC : SC) (sM : SM), Rel T sC sM → T + n ≤ 1000 → j ≤ L → L - j < 6 * n → flaw N xs L n (nI j) sC sM = some () := by
  intro n
  induction n with
  | zero => intro j T sC sM h1 h2 h3 h4; omega
  | succ n ih =>
    intro j T sC sM h h2 h3 h4
    have et : (nI L - 6).toInt = (L : Int) - 6 := pk_sub_toInt (b := 6) (by omega) (by omega)
    unfold flaw
    by_cases hc : nI L - 6 < nI j
    · rw [if_pos hc]
    · rw [if_neg hc]
      rw [Int32.lt_iff_toInt_lt, et, nI_toInt (by omega)] at hc
      rw [z_gIx (by omega) (by omega)]
      refine fsw_ok hN hN2 (by omega) hL (by omega) h (fun sC' sM' h' => ?_) _
      rw [show nI j + 6 = nI (j + 6) from z_add j 6]
      exact ih (j + 6) (T + 1) sC' sM' h' (by omega) (by omega) (by omega)
