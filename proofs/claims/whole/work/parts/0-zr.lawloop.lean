set_option maxHeartbeats 4000000 in
theorem lsw {p : Program} {l : Launch} {e : Env} {s : State} {m : MethodId} {below : List Frame} {meth : Method} {c : Code} {b L : Nat} {xs : Nat → Int32} {D : va_G} {kc : Nat → ClassId} {adK adV : Nat → Nat} {sa : Nat} (C0 : LCx p l s m meth c b L xs D kc adK adV sa) {N : Nat} {ma : Nat → Nat} {hb sb : Nat → Nat → Nat} {oa : Nat} {Q : State → Prop} {K : SC → SM → Option Unit} {i : Int32} {cells slots : Nat} {ca : Nat → Nat} {sC : SC} {sM : SM} {out : Nat → Int64} {H : Heap} {locs : List Loc} {ls : Array Slot} (hcs : cells + 1 ≤ 601024 ∧ slots + 6 ≤ 7293034) (hP : va_P D vwCl (wC kc ca hb sb sC ++ (wM kc ma sM ++ wR kc hb sb oa sC out)) H) (hD : va_D (lA s) (wC kc ca hb sb sC ++ (wM kc ma sM ++ wR kc hb sb oa sC out))) (hS : va_S (lA s) s.heap H locs) (hl : lv_has ls 7 (lLv b ca ma oa i)) (kk : LK p l e s m below meth c b kc D ma hb sb oa i cells slots Q K) : ∀ (k : Nat), k < 64 → fsw N xs L K i sC sM k = some () → LW p l e s m below meth c b H locs cells slots Q (F0 m 40 ls [.int (nI k)])
  | 0, _, hf => lv_tableIn (tgt := 240) C0.1 C0.2.1 dL_law_40 (by decide) (by decide) (off := 200) (by decide +kernel) (by decide) (lop_append C0 hf hcs hP hD hS hl kk)
  | 1, _, hf => lv_tableIn (tgt := 313) C0.1 C0.2.1 dL_law_40 (by decide) (by decide) (off := 273) (by decide +kernel) (by decide) (lop_parse C0 hf hcs hP hD hS hl kk)
  | 2, _, hf => lv_tableIn (tgt := 338) C0.1 C0.2.1 dL_law_40 (by decide) (by decide) (off := 298) (by decide +kernel) (by decide) (lop_errorPosition C0 hf hcs hP hD hS hl kk)
  | 3, _, hf => lv_tableIn (tgt := 351) C0.1 C0.2.1 dL_law_40 (by decide) (by decide) (off := 311) (by decide +kernel) (by decide) (lop_regionCount C0 hf hcs hP hD hS hl kk)
  | 4, _, hf => lv_tableIn (tgt := 364) C0.1 C0.2.1 dL_law_40 (by decide) (by decide) (off := 324) (by decide +kernel) (by decide) (lop_windCount C0 hf hcs hP hD hS hl kk)
  | 5, _, hf => lv_tableIn (tgt := 377) C0.1 C0.2.1 dL_law_40 (by decide) (by decide) (off := 337) (by decide +kernel) (by decide) (lop_balloonCount C0 hf hcs hP hD hS hl kk)
  | 6, _, hf => lv_tableIn (tgt := 390) C0.1 C0.2.1 dL_law_40 (by decide) (by decide) (off := 350) (by decide +kernel) (by decide) (lop_letterCount C0 hf hcs hP hD hS hl kk)
  | 7, _, hf => lv_tableIn (tgt := 403) C0.1 C0.2.1 dL_law_40 (by decide) (by decide) (off := 363) (by decide +kernel) (by decide) (lop_capacity C0 hf hcs hP hD hS hl kk)
  | 8, _, hf => lv_tableIn (tgt := 428) C0.1 C0.2.1 dL_law_40 (by decide) (by decide) (off := 388) (by decide +kernel) (by decide) (lop_letterWeight C0 hf hcs hP hD hS hl kk)
  | 9, _, hf => lv_tableIn (tgt := 453) C0.1 C0.2.1 dL_law_40 (by decide) (by decide) (off := 413) (by decide +kernel) (by decide) (lop_windChance C0 hf hcs hP hD hS hl kk)
  | 10, _, hf => lv_tableIn (tgt := 491) C0.1 C0.2.1 dL_law_40 (by decide) (by decide) (off := 451) (by decide +kernel) (by decide) (lop_avoidChance C0 hf hcs hP hD hS hl kk)
  | 11, _, hf => lv_tableIn (tgt := 529) C0.1 C0.2.1 dL_law_40 (by decide) (by decide) (off := 489) (by decide +kernel) (by decide) (lop_landingChance C0 hf hcs hP hD hS hl kk)
  | 12, _, hf => lv_tableIn (tgt := 567) C0.1 C0.2.1 dL_law_40 (by decide) (by decide) (off := 527) (by decide +kernel) (by decide) (lop_deliveryChance C0 hf hcs hP hD hS hl kk)
  | 13, _, hf => lv_tableIn (tgt := 593) C0.1 C0.2.1 dL_law_40 (by decide) (by decide) (off := 553) (by decide +kernel) (by decide) (lop_answerChance C0 hf hcs hP hD hS hl kk)
  | 14, _, hf => lv_tableIn (tgt := 631) C0.1 C0.2.1 dL_law_40 (by decide) (by decide) (off := 591) (by decide +kernel) (by decide) (lop_answerPermille C0 hf hcs hP hD hS hl kk)
  | 15, _, hf => lv_tableIn (tgt := 668) C0.1 C0.2.1 dL_law_40 (by decide) (by decide) (off := 628) (by decide +kernel) (by decide) (lop_bestDay C0 hf hcs hP hD hS hl kk)
  | 16, _, hf => lv_tableIn (tgt := 693) C0.1 C0.2.1 dL_law_40 (by decide) (by decide) (off := 653) (by decide +kernel) (by decide) (lop_assignmentTotal C0 hf hcs hP hD hS hl kk)
  | 17, _, hf => lv_tableIn (tgt := 707) C0.1 C0.2.1 dL_law_40 (by decide) (by decide) (off := 667) (by decide +kernel) (by decide) (lop_assignedDay C0 hf hcs hP hD hS hl kk)
  | 18, _, hf => lv_tableIn (tgt := 732) C0.1 C0.2.1 dL_law_40 (by decide) (by decide) (off := 692) (by decide +kernel) (by decide) (lop_bestLoad C0 hf hcs hP hD hS hl kk)
  | 19, _, hf => lv_tableIn (tgt := 757) C0.1 C0.2.1 dL_law_40 (by decide) (by decide) (off := 717) (by decide +kernel) (by decide) (lop_weightOf C0 hf hcs hP hD hS hl kk)
  | 20, _, hf => lv_tableIn (tgt := 782) C0.1 C0.2.1 dL_law_40 (by decide) (by decide) (off := 742) (by decide +kernel) (by decide) (lop_priorityOf C0 hf hcs hP hD hS hl kk)
  | 21, _, hf => lv_tableIn (tgt := 807) C0.1 C0.2.1 dL_law_40 (by decide) (by decide) (off := 767) (by decide +kernel) (by decide) (lop_lettersIn C0 hf hcs hP hD hS hl kk)
  | 22, _, hf => lv_tableIn (tgt := 832) C0.1 C0.2.1 dL_law_40 (by decide) (by decide) (off := 792) (by decide +kernel) (by decide) (lop_day C0 hf hcs hP hD hS hl kk)
  | 23, _, hf => lv_tableIn (tgt := 845) C0.1 C0.2.1 dL_law_40 (by decide) (by decide) (off := 805) (by decide +kernel) (by decide) (lop_wind C0 hf hcs hP hD hS hl kk)
  | 24, _, hf => lv_tableIn (tgt := 858) C0.1 C0.2.1 dL_law_40 (by decide) (by decide) (off := 818) (by decide +kernel) (by decide) (lop_launch C0 hf hcs hP hD hS hl kk)
  | 25, _, hf => lv_tableIn (tgt := 895) C0.1 C0.2.1 dL_law_40 (by decide) (by decide) (off := 855) (by decide +kernel) (by decide) (lop_nextDay C0 hf hcs hP hD hS hl kk)
  | 26, _, hf => lv_tableIn (tgt := 908) C0.1 C0.2.1 dL_law_40 (by decide) (by decide) (off := 868) (by decide +kernel) (by decide) (lop_balloonState C0 hf hcs hP hD hS hl kk)
  | 27, _, hf => lv_tableIn (tgt := 933) C0.1 C0.2.1 dL_law_40 (by decide) (by decide) (off := 893) (by decide +kernel) (by decide) (lop_balloonRegion C0 hf hcs hP hD hS hl kk)
  | 28, _, hf => lv_tableIn (tgt := 958) C0.1 C0.2.1 dL_law_40 (by decide) (by decide) (off := 918) (by decide +kernel) (by decide) (lop_cargo C0 hf hcs hP hD hS hl kk)
  | 29, _, hf => lv_tableIn (tgt := 983) C0.1 C0.2.1 dL_law_40 (by decide) (by decide) (off := 943) (by decide +kernel) (by decide) (lop_letterState C0 hf hcs hP hD hS hl kk)
  | 30, _, hf => lv_tableIn (tgt := 1008) C0.1 C0.2.1 dL_law_40 (by decide) (by decide) (off := 968) (by decide +kernel) (by decide) (lop_answerDay C0 hf hcs hP hD hS hl kk)
  | 31, _, hf => lv_tableIn (tgt := 1033) C0.1 C0.2.1 dL_law_40 (by decide) (by decide) (off := 993) (by decide +kernel) (by decide) (lop_pigeonsInLoft C0 hf hcs hP hD hS hl kk)
  | 32, _, hf => lv_tableIn (tgt := 1046) C0.1 C0.2.1 dL_law_40 (by decide) (by decide) (off := 1006) (by decide +kernel) (by decide) (lop_pigeonsOnTheWay C0 hf hcs hP hD hS hl kk)
  | 33, _, hf => lv_tableIn (tgt := 1059) C0.1 C0.2.1 dL_law_40 (by decide) (by decide) (off := 1019) (by decide +kernel) (by decide) (lop_pigeonsLost C0 hf hcs hP hD hS hl kk)
  | 34, _, hf => lv_tableIn (tgt := 1072) C0.1 C0.2.1 dL_law_40 (by decide) (by decide) (off := 1032) (by decide +kernel) (by decide) (lop_nextReturn C0 hf hcs hP hD hS hl kk)
  | 35, _, hf => lv_tableIn (tgt := 1085) C0.1 C0.2.1 dL_law_40 (by decide) (by decide) (off := 1045) (by decide +kernel) (by decide) (lop_weightIn C0 hf hcs hP hD hS hl kk)
  | 36, _, hf => lv_tableIn (tgt := 1110) C0.1 C0.2.1 dL_law_40 (by decide) (by decide) (off := 1070) (by decide +kernel) (by decide) (lop_answeredPriority C0 hf hcs hP hD hS hl kk)
  | 37, _, hf => lv_tableIn (tgt := 1123) C0.1 C0.2.1 dL_law_40 (by decide) (by decide) (off := 1083) (by decide +kernel) (by decide) (lop_balloonsIn C0 hf hcs hP hD hS hl kk)
  | 38, _, hf => lv_tableIn (tgt := 1148) C0.1 C0.2.1 dL_law_40 (by decide) (by decide) (off := 1108) (by decide +kernel) (by decide) (lop_eventCount C0 hf hcs hP hD hS hl kk)
  | 39, _, hf => lv_tableIn (tgt := 1161) C0.1 C0.2.1 dL_law_40 (by decide) (by decide) (off := 1121) (by decide +kernel) (by decide) (lop_eventKind C0 hf hcs hP hD hS hl kk)
  | 40, _, hf => lv_tableIn (tgt := 1217) C0.1 C0.2.1 dL_law_40 (by decide) (by decide) (off := 1177) (by decide +kernel) (by decide) (lop_eventNumber C0 hf hcs hP hD hS hl kk)
  | 41, _, hf => lv_tableIn (tgt := 1273) C0.1 C0.2.1 dL_law_40 (by decide) (by decide) (off := 1233) (by decide +kernel) (by decide) (lop_eventDay C0 hf hcs hP hD hS hl kk)
  | 42, _, hf => lv_tableIn (tgt := 1329) C0.1 C0.2.1 dL_law_40 (by decide) (by decide) (off := 1289) (by decide +kernel) (by decide) (lop_undo C0 hf hcs hP hD hS hl kk)
  | 43, _, hf => lv_tableIn (tgt := 1342) C0.1 C0.2.1 dL_law_40 (by decide) (by decide) (off := 1302) (by decide +kernel) (by decide) (lop_undoDepth C0 hf hcs hP hD hS hl kk)
  | 44, _, hf => lv_tableIn (tgt := 1355) C0.1 C0.2.1 dL_law_40 (by decide) (by decide) (off := 1315) (by decide +kernel) (by decide) (lop_saveSnapshot C0 hf hcs hP hD hS hl kk)
  | 45, _, hf => lv_tableIn (tgt := 1380) C0.1 C0.2.1 dL_law_40 (by decide) (by decide) (off := 1340) (by decide +kernel) (by decide) (lop_restoreSnapshot C0 hf hcs hP hD hS hl kk)
  | k + 46, hk, hf => by
    have hf : K sC sM = some () := hf
    refine lv_tableOut (tgt := 1405) C0.1 C0.2.1 dL_law_40 (Or.inr (by rw [nI_toInt (by omega)]; omega)) (by decide) ?_
    exact W.widen (k := cells + 1) (n := slots + 6) (by omega) (by omega) (kk ca sC sM out H locs ls hf hP hD hS hl)
set_option maxHeartbeats 4000000 in
theorem llaw {p : Program} {l : Launch} {e : Env} {s : State} {m : MethodId} {below : List Frame} {meth : Method} {c : Code} {b L : Nat} {xs : Nat → Int32} {D : va_G} {kc : Nat → ClassId} {adK adV : Nat → Nat} {sa : Nat} (C0 : LCx p l s m meth c b L xs D kc adK adV sa) {N : Nat} {ma : Nat → Nat} {hb sb : Nat → Nat → Nat} {oa : Nat} {Q : State → Prop} (kend : ∀ (H : Heap) (locs : List Loc) (ls : Array Slot) (cells slots : Nat), cells ≤ 601024 → slots ≤ 7293034 → va_S (lA s) s.heap H locs → LW p l e s m below meth c b H locs cells slots Q (F0 m 1411 ls [])) : ∀ (n : Nat) (i : Int32) (ca : Nat → Nat) (sC : SC) (sM : SM) (out : Nat → Int64) (H : Heap) (locs : List Loc) (ls : Array Slot) (cells slots : Nat), flaw N xs L n i sC sM = some () → cells + n ≤ 601024 → slots + 6 * n ≤ 7293034 → va_P D vwCl (wC kc ca hb sb sC ++ (wM kc ma sM ++ wR kc hb sb oa sC out)) H → va_D (lA s) (wC kc ca hb sb sC ++ (wM kc ma sM ++ wR kc hb sb oa sC out)) → va_S (lA s) s.heap H locs → lv_has ls 7 (lLv b ca ma oa i) → LW p l e s m below meth c b H locs cells slots Q (F0 m 23 ls []) := by
  obtain ⟨hx, hbb, hml, hown, hts, hX, hbl, hN, hG, hXx, hK, hst⟩ := id C0
  have hbA : ¬ lA s b := Nat.not_le.mpr hbl
  intro n
  induction n with
  | zero => intro i ca sC sM out H locs ls cells slots hf; cases hf
  | succ n ih =>
    intro i ca sC sM out H locs ls cells slots hf hc1 hc2 hP hD hS hl
    have hf : (if nI L - 6 < i then some () else gIx i L (fsw N xs L (fun a b => flaw N xs L n (i + 6) a b) i sC sM ((xs i.toNatClampNeg) &&& 63).toNatClampNeg)) = some () := hf
    refine lv_iload hx hbb dL_law_23 (lv_at hl 4 rfl) ?_
    refine lv_aload_n hx hbb dL_law_25 rfl (lv_at hl 0 rfl) ?_
    refine va_slen hx hbb hX hbl hbA hS dL_law_26 ?_
    refine lv_bipush (v := 6) hx hbb dL_law_27 rfl ?_
    refine lv_isub hx hbb dL_law_29 ?_
    refine lv_icmp_gt (tgt := 1411) hx hbb dL_law_30 (by decide) (fun hc => ?_) (fun hc => ?_)
    · exact kend H locs ls cells slots (by omega) (by omega) hS
    · have hf := o_f hc hf
      obtain ⟨hi, hf⟩ := gIx_some hf
      refine lv_aload_n hx hbb dL_law_33 rfl (lv_at hl 0 rfl) ?_
      refine lv_iload hx hbb dL_law_34 (lv_at hl 4 rfl) ?_
      refine va_sld hx hbb hX hbl hbA hS hi dL_law_36 ?_
      refine lv_bipush (v := 63) hx hbb dL_law_37 rfl ?_
      refine lv_iand hx hbb dL_law_39 ?_
      obtain ⟨k, hk, ek⟩ := and63 (xs i.toNatClampNeg)
      rw [ek, z_cl (by omega)] at hf
      rw [ek]
      refine lsw C0 (N := N) ⟨by omega, by omega⟩ hP hD hS hl (fun ca sC sM out H locs ls hK9 hP hD hS hl => ?_) k hk hf
      refine lv_iinc (v := i + 6) (lv' := [(4, .int (i + 6)), (0, .ref b), (1, .ref (ca 0)), (2, .ref (ma 0)), (3, .ref oa)]) hx hbb dL_law_1405 hl (k := 4) rfl rfl (by decide) rfl (fun ls hl => ?_)
      refine lv_goto (tgt := 23) hx hbb dL_law_1408 (by decide) ?_
      exact ih (i + 6) ca sC sM out H locs ls (cells + 1) (slots + 6) hK9 (by omega) (by omega) hP hD hS (lv_sub hl [1, 2, 3, 4, 0] rfl)
