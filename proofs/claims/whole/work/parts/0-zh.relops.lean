theorem z_ob21 {a1 a2 a3 a4 a5 a6 a7 a8 a9 a10 a11 a12 a13 a14 a15 a16 a17 a18 a19 a20 a21 γ : Type} {k : a1 → a2 → a3 → a4 → a5 → a6 → a7 → a8 → a9 → a10 → a11 → a12 → a13 → a14 → a15 → a16 → a17 → a18 → a19 → a20 → a21 → Option γ} {v1 : a1} {v2 : a2} {v3 : a3} {v4 : a4} {v5 : a5} {v6 : a6} {v7 : a7} {v8 : a8} {v9 : a9} {v10 : a10} {v11 : a11} {v12 : a12} {v13 : a13} {v14 : a14} {v15 : a15} {v16 : a16} {v17 : a17} {v18 : a18} {v19 : a19} {v20 : a20} {v21 : a21} : ob21 (some (v1, v2, v3, v4, v5, v6, v7, v8, v9, v10, v11, v12, v13, v14, v15, v16, v17, v18, v19, v20, v21)) k = k v1 v2 v3 v4 v5 v6 v7 v8 v9 v10 v11 v12 v13 v14 v15 v16 v17 v18 v19 v20 v21 := rfl
theorem z_ob32 {a1 a2 a3 a4 a5 a6 a7 a8 a9 a10 a11 a12 a13 a14 a15 a16 a17 a18 a19 a20 a21 a22 a23 a24 a25 a26 a27 a28 a29 a30 a31 a32 γ : Type} {k : a1 → a2 → a3 → a4 → a5 → a6 → a7 → a8 → a9 → a10 → a11 → a12 → a13 → a14 → a15 → a16 → a17 → a18 → a19 → a20 → a21 → a22 → a23 → a24 → a25 → a26 → a27 → a28 → a29 → a30 → a31 → a32 → Option γ} {v1 : a1} {v2 : a2} {v3 : a3} {v4 : a4} {v5 : a5} {v6 : a6} {v7 : a7} {v8 : a8} {v9 : a9} {v10 : a10} {v11 : a11} {v12 : a12} {v13 : a13} {v14 : a14} {v15 : a15} {v16 : a16} {v17 : a17} {v18 : a18} {v19 : a19} {v20 : a20} {v21 : a21} {v22 : a22} {v23 : a23} {v24 : a24} {v25 : a25} {v26 : a26} {v27 : a27} {v28 : a28} {v29 : a29} {v30 : a30} {v31 : a31} {v32 : a32} : ob32 (some (v1, v2, v3, v4, v5, v6, v7, v8, v9, v10, v11, v12, v13, v14, v15, v16, v17, v18, v19, v20, v21, v22, v23, v24, v25, v26, v27, v28, v29, v30, v31, v32)) k = k v1 v2 v3 v4 v5 v6 v7 v8 v9 v10 v11 v12 v13 v14 v15 v16 v17 v18 v19 v20 v21 v22 v23 v24 v25 v26 v27 v28 v29 v30 v31 v32 := rfl
theorem z_ob36 {a1 a2 a3 a4 a5 a6 a7 a8 a9 a10 a11 a12 a13 a14 a15 a16 a17 a18 a19 a20 a21 a22 a23 a24 a25 a26 a27 a28 a29 a30 a31 a32 a33 a34 a35 a36 γ : Type} {k : a1 → a2 → a3 → a4 → a5 → a6 → a7 → a8 → a9 → a10 → a11 → a12 → a13 → a14 → a15 → a16 → a17 → a18 → a19 → a20 → a21 → a22 → a23 → a24 → a25 → a26 → a27 → a28 → a29 → a30 → a31 → a32 → a33 → a34 → a35 → a36 → Option γ} {v1 : a1} {v2 : a2} {v3 : a3} {v4 : a4} {v5 : a5} {v6 : a6} {v7 : a7} {v8 : a8} {v9 : a9} {v10 : a10} {v11 : a11} {v12 : a12} {v13 : a13} {v14 : a14} {v15 : a15} {v16 : a16} {v17 : a17} {v18 : a18} {v19 : a19} {v20 : a20} {v21 : a21} {v22 : a22} {v23 : a23} {v24 : a24} {v25 : a25} {v26 : a26} {v27 : a27} {v28 : a28} {v29 : a29} {v30 : a30} {v31 : a31} {v32 : a32} {v33 : a33} {v34 : a34} {v35 : a35} {v36 : a36} : ob36 (some (v1, v2, v3, v4, v5, v6, v7, v8, v9, v10, v11, v12, v13, v14, v15, v16, v17, v18, v19, v20, v21, v22, v23, v24, v25, v26, v27, v28, v29, v30, v31, v32, v33, v34, v35, v36)) k = k v1 v2 v3 v4 v5 v6 v7 v8 v9 v10 v11 v12 v13 v14 v15 v16 v17 v18 v19 v20 v21 v22 v23 v24 v25 v26 v27 v28 v29 v30 v31 v32 v33 v34 v35 v36 := rfl
theorem z_ob38 {a1 a2 a3 a4 a5 a6 a7 a8 a9 a10 a11 a12 a13 a14 a15 a16 a17 a18 a19 a20 a21 a22 a23 a24 a25 a26 a27 a28 a29 a30 a31 a32 a33 a34 a35 a36 a37 a38 γ : Type} {k : a1 → a2 → a3 → a4 → a5 → a6 → a7 → a8 → a9 → a10 → a11 → a12 → a13 → a14 → a15 → a16 → a17 → a18 → a19 → a20 → a21 → a22 → a23 → a24 → a25 → a26 → a27 → a28 → a29 → a30 → a31 → a32 → a33 → a34 → a35 → a36 → a37 → a38 → Option γ} {v1 : a1} {v2 : a2} {v3 : a3} {v4 : a4} {v5 : a5} {v6 : a6} {v7 : a7} {v8 : a8} {v9 : a9} {v10 : a10} {v11 : a11} {v12 : a12} {v13 : a13} {v14 : a14} {v15 : a15} {v16 : a16} {v17 : a17} {v18 : a18} {v19 : a19} {v20 : a20} {v21 : a21} {v22 : a22} {v23 : a23} {v24 : a24} {v25 : a25} {v26 : a26} {v27 : a27} {v28 : a28} {v29 : a29} {v30 : a30} {v31 : a31} {v32 : a32} {v33 : a33} {v34 : a34} {v35 : a35} {v36 : a36} {v37 : a37} {v38 : a38} : ob38 (some (v1, v2, v3, v4, v5, v6, v7, v8, v9, v10, v11, v12, v13, v14, v15, v16, v17, v18, v19, v20, v21, v22, v23, v24, v25, v26, v27, v28, v29, v30, v31, v32, v33, v34, v35, v36, v37, v38)) k = k v1 v2 v3 v4 v5 v6 v7 v8 v9 v10 v11 v12 v13 v14 v15 v16 v17 v18 v19 v20 v21 v22 v23 v24 v25 v26 v27 v28 v29 v30 v31 v32 v33 v34 v35 v36 v37 v38 := rfl
theorem z_ob73 {a1 a2 a3 a4 a5 a6 a7 a8 a9 a10 a11 a12 a13 a14 a15 a16 a17 a18 a19 a20 a21 a22 a23 a24 a25 a26 a27 a28 a29 a30 a31 a32 a33 a34 a35 a36 a37 a38 a39 a40 a41 a42 a43 a44 a45 a46 a47 a48 a49 a50 a51 a52 a53 a54 a55 a56 a57 a58 a59 a60 a61 a62 a63 a64 a65 a66 a67 a68 a69 a70 a71 a72 a73 γ : Type} {k : a1 → a2 → a3 → a4 → a5 → a6 → a7 → a8 → a9 → a10 → a11 → a12 → a13 → a14 → a15 → a16 → a17 → a18 → a19 → a20 → a21 → a22 → a23 → a24 → a25 → a26 → a27 → a28 → a29 → a30 → a31 → a32 → a33 → a34 → a35 → a36 → a37 → a38 → a39 → a40 → a41 → a42 → a43 → a44 → a45 → a46 → a47 → a48 → a49 → a50 → a51 → a52 → a53 → a54 → a55 → a56 → a57 → a58 → a59 → a60 → a61 → a62 → a63 → a64 → a65 → a66 → a67 → a68 → a69 → a70 → a71 → a72 → a73 → Option γ} {v1 : a1} {v2 : a2} {v3 : a3} {v4 : a4} {v5 : a5} {v6 : a6} {v7 : a7} {v8 : a8} {v9 : a9} {v10 : a10} {v11 : a11} {v12 : a12} {v13 : a13} {v14 : a14} {v15 : a15} {v16 : a16} {v17 : a17} {v18 : a18} {v19 : a19} {v20 : a20} {v21 : a21} {v22 : a22} {v23 : a23} {v24 : a24} {v25 : a25} {v26 : a26} {v27 : a27} {v28 : a28} {v29 : a29} {v30 : a30} {v31 : a31} {v32 : a32} {v33 : a33} {v34 : a34} {v35 : a35} {v36 : a36} {v37 : a37} {v38 : a38} {v39 : a39} {v40 : a40} {v41 : a41} {v42 : a42} {v43 : a43} {v44 : a44} {v45 : a45} {v46 : a46} {v47 : a47} {v48 : a48} {v49 : a49} {v50 : a50} {v51 : a51} {v52 : a52} {v53 : a53} {v54 : a54} {v55 : a55} {v56 : a56} {v57 : a57} {v58 : a58} {v59 : a59} {v60 : a60} {v61 : a61} {v62 : a62} {v63 : a63} {v64 : a64} {v65 : a65} {v66 : a66} {v67 : a67} {v68 : a68} {v69 : a69} {v70 : a70} {v71 : a71} {v72 : a72} {v73 : a73} : ob73 (some (v1, v2, v3, v4, v5, v6, v7, v8, v9, v10, v11, v12, v13, v14, v15, v16, v17, v18, v19, v20, v21, v22, v23, v24, v25, v26, v27, v28, v29, v30, v31, v32, v33, v34, v35, v36, v37, v38, v39, v40, v41, v42, v43, v44, v45, v46, v47, v48, v49, v50, v51, v52, v53, v54, v55, v56, v57, v58, v59, v60, v61, v62, v63, v64, v65, v66, v67, v68, v69, v70, v71, v72, v73)) k = k v1 v2 v3 v4 v5 v6 v7 v8 v9 v10 v11 v12 v13 v14 v15 v16 v17 v18 v19 v20 v21 v22 v23 v24 v25 v26 v27 v28 v29 v30 v31 v32 v33 v34 v35 v36 v37 v38 v39 v40 v41 v42 v43 v44 v45 v46 v47 v48 v49 v50 v51 v52 v53 v54 v55 v56 v57 v58 v59 v60 v61 v62 v63 v64 v65 v66 v67 v68 v69 v70 v71 v72 v73 := rfl
theorem kB_nx {q : Nat} (hq : q < 12) : kB 12 (if (11 : Int32) ≤ nI q then 0 else nI q + 1) = nxQ q := by
  have e1 : ((11 : Int32) ≤ nI q) = (11 ≤ q) := z_le (a := 11) (by omega) (by omega)
  unfold kB
  simp only [e1]
  by_cases h : 11 ≤ q
  · have eQ : nxQ q = 0 := if_pos (by omega)
    rw [if_pos h, eQ]; rfl
  · have eQ : nxQ q = q + 1 := if_neg (by omega)
    rw [if_neg h, eQ, nI_1, z_cl (by omega), if_pos (by omega)]
theorem kB_nI {n q : Nat} (hq : q < n) (hn : n < 2 ^ 31) : kB n (nI q) = q := by
  unfold kB
  rw [z_cl (by omega), if_pos hq]
theorem up_same {f : Nat → SV} {k : Nat} {v : SV} (h : f k = v) : va_up f k v = f := by
  funext j
  unfold va_up
  by_cases e : j = k
  · rw [if_pos e, e, h]
  · rw [if_neg e]
theorem r_nextDay {N T : Nat} {sC : SC} {sM : SM} (hN : 3000 < N) (hN2 : N < 2 ^ 31) (hT : T ≤ 1000) (h : Rel T sC sM) : ∃ r sC' sM', oC_nextDay N sC = some (r, sC') ∧ oM_nextDay N sM = some (r, sM') ∧ Rel (T + 1) sC' sM' := by
  obtain ⟨⟨tl, ep, und, nw, tx, rda, rdb, rdc, rdd, rde, rdf, rdg, rdh, rdi, now, then_, planned, pw, pr, gain, best, chosen, lightest, sf⟩, ⟨day, wind, loftN, lost, lc, ds, jc, jk, jn, jd, bst, br, cg, lt, an, ho, du, la⟩, ⟨regions, balloons, letters, loft, start, seed, count, turnCount, turnFrom, turnTo, follow, land, aimCount, aim, risk, distance, comeback, capacity, pigeons, weight, priority⟩, ⟨qregions, qballoons, qletters, qloft, qstart, qseed, qcount, qturnCount, qturnFrom, qturnTo, qfollow, qland, qaimCount, qaim, qrisk, qdistance, qcomeback, qcapacity, qpigeons, qweight, qpriority⟩, hist, slots⟩ := sC
  obtain ⟨th, mLoft, mStart, mSeed, dl, dst, dd, ml, ts, mst, mnx, mtk, mv, me, ea, mnu, mund, mNow, mRegions, mRisk, mDistance, mBack, mWinds, mNamed, mNR, mNW, mTurns, mTF, mTT, mTW, mBalloons, mRoom, mPigeons, mLetters, mWeight, mPriority, mtx, chance, chanceNext, total, worth, mBest, undo, ms, sv⟩ := sM
  have hR : RelX T tl ep und nw tx planned pw pr best chosen sf day wind loftN lost lc ds jc jk jn jd bst br cg lt an ho du la regions balloons letters loft start seed count turnCount turnFrom turnTo follow land aimCount aim risk distance comeback capacity pigeons weight priority hist slots mLoft mStart mSeed ml ea mund mNow mRegions mRisk mDistance mBack mWinds mNamed mNR mNW mTurns mTF mTT mTW mBalloons mRoom mPigeons mLetters mWeight mPriority mtx undo ms sv := h
  obtain ⟨G, L, mu, q, hG, hc, hm, hs, hp, ht, he, hh, hsl⟩ := id hR
  obtain ⟨rfl, rfl, rfl, hH⟩ := hh
  obtain ⟨v2, hv2⟩ : ∃ v, hist (nxQ q) = v := ⟨_, rfl⟩
  obtain ⟨day2, wind2, loftN2, lost2, lc2, ds2, jc2, jk2, jn2, jd2, bst2, br2, cg2, lt2, an2, ho2, du2, la2⟩ := v2
  have ek := kB_nx hH.2.1
  obtain ⟨r, day', wind', loft', ds', jc', jk', jn', jd', ho', lt', an', now', undo', a1, a2, a3, a4, a5, a6, a7, a8, a9, a10, a11, p1, p2, p3, p4⟩ := e_nextDay (N := N) (jk2 := jk2) (jn2 := jn2) (jd2 := jd2) (bst2 := bst2) (br2 := br2) (cg2 := cg2) (lt2 := lt2) (an2 := an2) (ho2 := ho2) (du2 := du2) (la2 := la2) hN hT hG hc hm hs hH
  refine ⟨r, _, _, ?_, ob5_of p2, G, L, nxM mu, nxQ q, hG, hc, hm, p3, hp, ht, he, ⟨rfl, rfl, rfl, p4⟩, hsl.mono (by omega)⟩
  unfold oC_nextDay
  dsimp only
  rw [ek, hv2, p1, z_ob32]
theorem r_launch {N T : Nat} {sC : SC} {sM : SM} (hN : 3000 < N) (hN2 : N < 2 ^ 31) (hT : T ≤ 1000) (h : Rel T sC sM) (x1 x2 : Int32) : ∃ r sC' sM', oC_launch N sC x1 x2 = some (r, sC') ∧ oM_launch N sM x1 x2 = some (r, sM') ∧ Rel (T) sC' sM' := by
  obtain ⟨⟨tl, ep, und, nw, tx, rda, rdb, rdc, rdd, rde, rdf, rdg, rdh, rdi, now, then_, planned, pw, pr, gain, best, chosen, lightest, sf⟩, ⟨day, wind, loftN, lost, lc, ds, jc, jk, jn, jd, bst, br, cg, lt, an, ho, du, la⟩, ⟨regions, balloons, letters, loft, start, seed, count, turnCount, turnFrom, turnTo, follow, land, aimCount, aim, risk, distance, comeback, capacity, pigeons, weight, priority⟩, ⟨qregions, qballoons, qletters, qloft, qstart, qseed, qcount, qturnCount, qturnFrom, qturnTo, qfollow, qland, qaimCount, qaim, qrisk, qdistance, qcomeback, qcapacity, qpigeons, qweight, qpriority⟩, hist, slots⟩ := sC
  obtain ⟨th, mLoft, mStart, mSeed, dl, dst, dd, ml, ts, mst, mnx, mtk, mv, me, ea, mnu, mund, mNow, mRegions, mRisk, mDistance, mBack, mWinds, mNamed, mNR, mNW, mTurns, mTF, mTT, mTW, mBalloons, mRoom, mPigeons, mLetters, mWeight, mPriority, mtx, chance, chanceNext, total, worth, mBest, undo, ms, sv⟩ := sM
  have hR : RelX T tl ep und nw tx planned pw pr best chosen sf day wind loftN lost lc ds jc jk jn jd bst br cg lt an ho du la regions balloons letters loft start seed count turnCount turnFrom turnTo follow land aimCount aim risk distance comeback capacity pigeons weight priority hist slots mLoft mStart mSeed ml ea mund mNow mRegions mRisk mDistance mBack mWinds mNamed mNR mNW mTurns mTF mTT mTW mBalloons mRoom mPigeons mLetters mWeight mPriority mtx undo ms sv := h
  obtain ⟨G, L, mu, q, hG, hc, hm, hs, hp, ht, he, hh, hsl⟩ := id hR
  obtain ⟨rfl, rfl, rfl, hH⟩ := hh
  obtain ⟨v2, hv2⟩ : ∃ v, hist (nxQ q) = v := ⟨_, rfl⟩
  obtain ⟨day2, wind2, loftN2, lost2, lc2, ds2, jc2, jk2, jn2, jd2, bst2, br2, cg2, lt2, an2, ho2, du2, la2⟩ := v2
  have ek := kB_nx hH.2.1
  rcases e_launch (N := N) (day2 := day2) (wind2 := wind2) (loftN2 := loftN2) (lost2 := lost2) (lc2 := lc2) (ds2 := ds2) (jc2 := jc2) (jk2 := jk2) (jn2 := jn2) (jd2 := jd2) (bst2 := bst2) (br2 := br2) (cg2 := cg2) (lt2 := lt2) (an2 := an2) (ho2 := ho2) (du2 := du2) (la2 := la2) hN hT hG hc hm hs hH x1 x2 with ⟨r, p1, p2⟩ | ⟨r, loft', lost', lc', ds', lt', bst', jc', jk', jn', jd', br', cg', ho', du', la', now', undo', a1, a2, a3, a4, a5, a6, a7, a8, a9, a10, a11, p1, p2, p3, p4⟩
  · refine ⟨r, ((tl, ep, nI mu, nI q, tx, rda, rdb, rdc, rdd, rde, rdf, rdg, rdh, rdi, now, then_, planned, pw, pr, gain, best, chosen, lightest, sf), (day, wind, loftN, lost, lc, ds, jc, jk, jn, jd, bst, br, cg, lt, an, ho, du, la), (regions, balloons, letters, loft, start, seed, count, turnCount, turnFrom, turnTo, follow, land, aimCount, aim, risk, distance, comeback, capacity, pigeons, weight, priority), (qregions, qballoons, qletters, qloft, qstart, qseed, qcount, qturnCount, qturnFrom, qturnTo, qfollow, qland, qaimCount, qaim, qrisk, qdistance, qcomeback, qcapacity, qpigeons, qweight, qpriority), hist, slots), _, ?_, ob5_of p2, hR⟩
    unfold oC_launch
    dsimp only
    rw [ek, hv2, p1, z_ob36, up_same hv2]
  · refine ⟨r, _, _, ?_, ob5_of p2, G, L, nxM mu, nxQ q, hG, hc, hm, p3, hp, ht, he, ⟨rfl, rfl, rfl, p4⟩, hsl⟩
    unfold oC_launch
    dsimp only
    rw [ek, hv2, p1, z_ob36]
theorem r_undo {N T : Nat} {sC : SC} {sM : SM} (hN : 3000 < N) (hN2 : N < 2 ^ 31) (hT : T ≤ 1000) (h : Rel T sC sM) : ∃ r sC' sM', oC_undo N sC = some (r, sC') ∧ oM_undo N sM = some (r, sM') ∧ Rel (T) sC' sM' := by
  obtain ⟨⟨tl, ep, und, nw, tx, rda, rdb, rdc, rdd, rde, rdf, rdg, rdh, rdi, now, then_, planned, pw, pr, gain, best, chosen, lightest, sf⟩, ⟨day, wind, loftN, lost, lc, ds, jc, jk, jn, jd, bst, br, cg, lt, an, ho, du, la⟩, ⟨regions, balloons, letters, loft, start, seed, count, turnCount, turnFrom, turnTo, follow, land, aimCount, aim, risk, distance, comeback, capacity, pigeons, weight, priority⟩, ⟨qregions, qballoons, qletters, qloft, qstart, qseed, qcount, qturnCount, qturnFrom, qturnTo, qfollow, qland, qaimCount, qaim, qrisk, qdistance, qcomeback, qcapacity, qpigeons, qweight, qpriority⟩, hist, slots⟩ := sC
  obtain ⟨th, mLoft, mStart, mSeed, dl, dst, dd, ml, ts, mst, mnx, mtk, mv, me, ea, mnu, mund, mNow, mRegions, mRisk, mDistance, mBack, mWinds, mNamed, mNR, mNW, mTurns, mTF, mTT, mTW, mBalloons, mRoom, mPigeons, mLetters, mWeight, mPriority, mtx, chance, chanceNext, total, worth, mBest, undo, ms, sv⟩ := sM
  have hR : RelX T tl ep und nw tx planned pw pr best chosen sf day wind loftN lost lc ds jc jk jn jd bst br cg lt an ho du la regions balloons letters loft start seed count turnCount turnFrom turnTo follow land aimCount aim risk distance comeback capacity pigeons weight priority hist slots mLoft mStart mSeed ml ea mund mNow mRegions mRisk mDistance mBack mWinds mNamed mNR mNW mTurns mTF mTT mTW mBalloons mRoom mPigeons mLetters mWeight mPriority mtx undo ms sv := h
  obtain ⟨G, L, mu, q, hG, hc, hm, hs, hp, ht, he, hh, hsl⟩ := id hR
  obtain ⟨rfl, rfl, rfl, hH⟩ := hh
  obtain ⟨v2, hv2⟩ : ∃ v, hist q = v := ⟨_, rfl⟩
  obtain ⟨day2, wind2, loftN2, lost2, lc2, ds2, jc2, jk2, jn2, jd2, bst2, br2, cg2, lt2, an2, ho2, du2, la2⟩ := v2
  have ek := kB_nI hH.2.1 (by omega)
  rcases e_undo (N := N) (day := day) (wind := wind) (loftN := loftN) (lost := lost) (lc := lc) (ds := ds) (jc := jc) (jk := jk) (jn := jn) (jd := jd) (bst := bst) (br := br) (cg := cg) (lt := lt) (an := an) (ho := ho) (du := du) (la := la) (mNow := mNow) hN hG hH hv2 with ⟨h0, p1, p2⟩ | ⟨a1, a2, a3, a4, a5, a6, a7, a8, a9, a10, a11, now', mu', q', p1, p2, p3, p4⟩
  · refine ⟨0, _, _, ?_, ob4_of p2, hR⟩
    unfold oC_undo
    dsimp only
    rw [ek, hv2, p1, z_ob21]
  · refine ⟨1, _, _, ?_, ob4_of p2, G, L, mu', q', hG, hc, hm, p3, hp, ht, he, ⟨rfl, rfl, rfl, p4⟩, hsl⟩
    unfold oC_undo
    dsimp only
    rw [ek, hv2, p1, z_ob21]
theorem r_saveSnapshot {N T : Nat} {sC : SC} {sM : SM} (hN : 3000 < N) (hN2 : N < 2 ^ 31) (hT : T ≤ 1000) (h : Rel T sC sM) (x1 : Int32) : ∃ r sC' sM', oC_saveSnapshot N sC x1 = some (r, sC') ∧ oM_saveSnapshot N sM x1 = some (r, sM') ∧ Rel (T) sC' sM' := by
  obtain ⟨⟨tl, ep, und, nw, tx, rda, rdb, rdc, rdd, rde, rdf, rdg, rdh, rdi, now, then_, planned, pw, pr, gain, best, chosen, lightest, sf⟩, ⟨day, wind, loftN, lost, lc, ds, jc, jk, jn, jd, bst, br, cg, lt, an, ho, du, la⟩, ⟨regions, balloons, letters, loft, start, seed, count, turnCount, turnFrom, turnTo, follow, land, aimCount, aim, risk, distance, comeback, capacity, pigeons, weight, priority⟩, ⟨qregions, qballoons, qletters, qloft, qstart, qseed, qcount, qturnCount, qturnFrom, qturnTo, qfollow, qland, qaimCount, qaim, qrisk, qdistance, qcomeback, qcapacity, qpigeons, qweight, qpriority⟩, hist, slots⟩ := sC
  obtain ⟨th, mLoft, mStart, mSeed, dl, dst, dd, ml, ts, mst, mnx, mtk, mv, me, ea, mnu, mund, mNow, mRegions, mRisk, mDistance, mBack, mWinds, mNamed, mNR, mNW, mTurns, mTF, mTT, mTW, mBalloons, mRoom, mPigeons, mLetters, mWeight, mPriority, mtx, chance, chanceNext, total, worth, mBest, undo, ms, sv⟩ := sM
  have hR : RelX T tl ep und nw tx planned pw pr best chosen sf day wind loftN lost lc ds jc jk jn jd bst br cg lt an ho du la regions balloons letters loft start seed count turnCount turnFrom turnTo follow land aimCount aim risk distance comeback capacity pigeons weight priority hist slots mLoft mStart mSeed ml ea mund mNow mRegions mRisk mDistance mBack mWinds mNamed mNR mNW mTurns mTF mTT mTW mBalloons mRoom mPigeons mLetters mWeight mPriority mtx undo ms sv := h
  obtain ⟨G, L, mu, q, hG, hc, hm, hs, hp, ht, he, hh, hsl⟩ := id hR
  obtain ⟨v2, hv2⟩ : ∃ v, slots (kB 2 x1) = v := ⟨_, rfl⟩
  obtain ⟨day2, wind2, loftN2, lost2, lc2, ds2, jc2, jk2, jn2, jd2, bst2, br2, cg2, lt2, an2, ho2, du2, la2⟩ := v2
  rcases e_save (N := N) (day2 := day2) (wind2 := wind2) (loftN2 := loftN2) (lost2 := lost2) (lc2 := lc2) (ds2 := ds2) (jc2 := jc2) (jk2 := jk2) (jn2 := jn2) (jd2 := jd2) (bst2 := bst2) (br2 := br2) (cg2 := cg2) (lt2 := lt2) (an2 := an2) (ho2 := ho2) (du2 := du2) (la2 := la2) hN hG hs hsl x1 with ⟨p1, p2, _⟩ | ⟨s, a1, a2, a3, a4, a5, a6, a7, a8, a9, a10, a11, sf', ms', sv', s1, rfl, p1, p2, p3⟩
  · refine ⟨0, ((tl, ep, und, nw, tx, rda, rdb, rdc, rdd, rde, rdf, rdg, rdh, rdi, now, then_, planned, pw, pr, gain, best, chosen, lightest, sf), (day, wind, loftN, lost, lc, ds, jc, jk, jn, jd, bst, br, cg, lt, an, ho, du, la), (regions, balloons, letters, loft, start, seed, count, turnCount, turnFrom, turnTo, follow, land, aimCount, aim, risk, distance, comeback, capacity, pigeons, weight, priority), (qregions, qballoons, qletters, qloft, qstart, qseed, qcount, qturnCount, qturnFrom, qturnTo, qfollow, qland, qaimCount, qaim, qrisk, qdistance, qcomeback, qcapacity, qpigeons, qweight, qpriority), hist, slots), _, ?_, ob4_of p2, hR⟩
    unfold oC_saveSnapshot
    dsimp only
    rw [hv2, p1, z_ob20, up_same hv2]
  · have ek := kB_nI s1 (by omega)
    refine ⟨1, _, _, ?_, ob4_of p2, G, L, mu, q, hG, hc, hm, hs, hp, ht, he, hh, p3⟩
    unfold oC_saveSnapshot
    dsimp only
    rw [hv2, p1, z_ob20, ek]
theorem r_restoreSnapshot {N T : Nat} {sC : SC} {sM : SM} (hN : 3000 < N) (hN2 : N < 2 ^ 31) (hT : T ≤ 1000) (h : Rel T sC sM) (x1 : Int32) : ∃ r sC' sM', oC_restoreSnapshot N sC x1 = some (r, sC') ∧ oM_restoreSnapshot N sM x1 = some (r, sM') ∧ Rel (T) sC' sM' := by
  obtain ⟨⟨tl, ep, und, nw, tx, rda, rdb, rdc, rdd, rde, rdf, rdg, rdh, rdi, now, then_, planned, pw, pr, gain, best, chosen, lightest, sf⟩, ⟨day, wind, loftN, lost, lc, ds, jc, jk, jn, jd, bst, br, cg, lt, an, ho, du, la⟩, ⟨regions, balloons, letters, loft, start, seed, count, turnCount, turnFrom, turnTo, follow, land, aimCount, aim, risk, distance, comeback, capacity, pigeons, weight, priority⟩, ⟨qregions, qballoons, qletters, qloft, qstart, qseed, qcount, qturnCount, qturnFrom, qturnTo, qfollow, qland, qaimCount, qaim, qrisk, qdistance, qcomeback, qcapacity, qpigeons, qweight, qpriority⟩, hist, slots⟩ := sC
  obtain ⟨th, mLoft, mStart, mSeed, dl, dst, dd, ml, ts, mst, mnx, mtk, mv, me, ea, mnu, mund, mNow, mRegions, mRisk, mDistance, mBack, mWinds, mNamed, mNR, mNW, mTurns, mTF, mTT, mTW, mBalloons, mRoom, mPigeons, mLetters, mWeight, mPriority, mtx, chance, chanceNext, total, worth, mBest, undo, ms, sv⟩ := sM
  have hR : RelX T tl ep und nw tx planned pw pr best chosen sf day wind loftN lost lc ds jc jk jn jd bst br cg lt an ho du la regions balloons letters loft start seed count turnCount turnFrom turnTo follow land aimCount aim risk distance comeback capacity pigeons weight priority hist slots mLoft mStart mSeed ml ea mund mNow mRegions mRisk mDistance mBack mWinds mNamed mNR mNW mTurns mTF mTT mTW mBalloons mRoom mPigeons mLetters mWeight mPriority mtx undo ms sv := h
  obtain ⟨G, L, mu, q, hG, hc, hm, hs, hp, ht, he, hh, hsl⟩ := id hR
  obtain ⟨rfl, rfl, rfl, hH⟩ := hh
  obtain ⟨v2, hv2⟩ : ∃ v, slots (kB 2 x1) = v := ⟨_, rfl⟩
  obtain ⟨day2, wind2, loftN2, lost2, lc2, ds2, jc2, jk2, jn2, jd2, bst2, br2, cg2, lt2, an2, ho2, du2, la2⟩ := v2
  rcases e_restore (N := N) (und := nI mu) (mu := mu) (day := day) (wind := wind) (loftN := loftN) (lost := lost) (lc := lc) (ds := ds) (jc := jc) (jk := jk) (jn := jn) (jd := jd) (bst := bst) (br := br) (cg := cg) (lt := lt) (an := an) (ho := ho) (du := du) (la := la) (mNow := mNow) hN hG hsl x1 (fun s s1 hx => by rw [hx, kB_nI s1 (by omega)] at hv2; exact hv2) with ⟨p1, p2⟩ | ⟨a1, a2, a3, a4, a5, a6, a7, a8, a9, a10, a11, now', p1, p2, p3⟩
  · refine ⟨0, _, _, ?_, ob4_of p2, hR⟩
    unfold oC_restoreSnapshot
    dsimp only
    rw [hv2, p1, z_ob20]
  · refine ⟨1, _, _, ?_, ob4_of p2, G, L, 0, q, hG, hc, hm, p3, hp, ht, he, ⟨rfl, rfl, rfl, Nat.zero_le _, hH.2.1, fun i hi => absurd hi (Nat.not_lt_zero i)⟩, hsl⟩
    unfold oC_restoreSnapshot
    dsimp only
    rw [hv2, p1, z_ob20]
theorem r_parse {N T : Nat} {sC : SC} {sM : SM} (hN : 3000 < N) (hN2 : N < 2 ^ 31) (hT : T ≤ 1000) (h : Rel T sC sM) (x1 : Int32) : ∃ r b1 b2 sC' sM', oC_parse N sC x1 = some (r, b1, b2, sC') ∧ oM_parse N sM x1 = some (r, sM') ∧ Rel T sC' sM' := by
  obtain ⟨⟨tl, ep, und, nw, tx, rda, rdb, rdc, rdd, rde, rdf, rdg, rdh, rdi, now, then_, planned, pw, pr, gain, best, chosen, lightest, sf⟩, ⟨day, wind, loftN, lost, lc, ds, jc, jk, jn, jd, bst, br, cg, lt, an, ho, du, la⟩, ⟨regions, balloons, letters, loft, start, seed, count, turnCount, turnFrom, turnTo, follow, land, aimCount, aim, risk, distance, comeback, capacity, pigeons, weight, priority⟩, ⟨qregions, qballoons, qletters, qloft, qstart, qseed, qcount, qturnCount, qturnFrom, qturnTo, qfollow, qland, qaimCount, qaim, qrisk, qdistance, qcomeback, qcapacity, qpigeons, qweight, qpriority⟩, hist, slots⟩ := sC
  obtain ⟨th, mLoft, mStart, mSeed, dl, dst, dd, ml, ts, mst, mnx, mtk, mv, me, ea, mnu, mund, mNow, mRegions, mRisk, mDistance, mBack, mWinds, mNamed, mNR, mNW, mTurns, mTF, mTT, mTW, mBalloons, mRoom, mPigeons, mLetters, mWeight, mPriority, mtx, chance, chanceNext, total, worth, mBest, undo, ms, sv⟩ := sM
  have hR : RelX T tl ep und nw tx planned pw pr best chosen sf day wind loftN lost lc ds jc jk jn jd bst br cg lt an ho du la regions balloons letters loft start seed count turnCount turnFrom turnTo follow land aimCount aim risk distance comeback capacity pigeons weight priority hist slots mLoft mStart mSeed ml ea mund mNow mRegions mRisk mDistance mBack mWinds mNamed mNR mNW mTurns mTF mTT mTW mBalloons mRoom mPigeons mLetters mWeight mPriority mtx undo ms sv := h
  obtain ⟨G, L, mu, q, hG, hc, hm, hs, hp, ht, he, hh, hsl⟩ := id hR
  obtain ⟨hL, rfl, rfl, hT9⟩ := ht
  subst he
  rcases e_parse (N := N) (T := T) (ep := ep) (und := und) (planned := planned) (s2 := rda) (en := rdb) (pl := rdc) (ki := rdd) (va := rde) (co := rdf) (lr := rdg) (sr := rdh) (er := rdi) (dl := dl) (dst := dst) (dd := dd) (ts := ts) (ms := mst) (mn := mnx) (mt := mtk) (mv := mv) (me := me) (mnu := mnu) (mund := mund) (isSaved := sv) (sf := sf) (qregions := qregions) (qballoons := qballoons) (qletters := qletters) (qloft := qloft) (qstart := qstart) (qseed := qseed) (qcount := qcount) (qturnCount := qturnCount) (qrisk := qrisk) (qdistance := qdistance) (qcomeback := qcomeback) (qfollow := qfollow) (qland := qland) (qaimCount := qaimCount) (qaim := qaim) (qturnFrom := qturnFrom) (qturnTo := qturnTo) (qcapacity := qcapacity) (qpigeons := qpigeons) (qweight := qweight) (qpriority := qpriority) (day := day) (wind := wind) (loftN := loftN) (lost := lost) (lc := lc) (ds := ds) (jc := jc) (jk := jk) (jn := jn) (jd := jd) (bst := bst) (br := br) (cg := cg) (lt := lt) (an := an) (ho := ho) (du := du) (la := la) (mNow := mNow) hN hL hT9 hG hm x1 with ⟨r, L', ep', mnu', tf, s2', en', pl', ki', va', co', lr', sr', er', dl', dst', dd', ts', ms', mn', mt', mv', me', i1, i2, i3, i4, i5, i6, i7, i8, a1, a2, a3, a4, a5, a6, a7, a8, a9, a10, a11, a12, a13, y1, y2, y3, y4, y5, y6, y7, y8, y9, y10, y11, y12, y13, y14, y15, y16, y17, y18, k1, k2, k3, k4⟩ | ⟨mnu', lo', sw', se', an', ho', du', sf', now', sv', day', wind', loft', lost', lc', ds', jc', bst', br', cg', lt', s2', en', pl', ki', va', co', lr', sr', er', dl', dst', dd', ts', ms', mn', mt', mv', me', i1, i2, i3, i4, i5, i6, i7, i8, a1, a2, a3, a4, a5, a6, a7, a8, a9, a10, a11, a12, a13, j1, j2, j3, j4, j5, j6, j7, j8, b1, b2, b3, b4, b5, b6, b7, b8, b9, b10, b11, b12, b13, y1, y2, y3, y4, y5, y6, y7, y8, y9, y10, y11, y12, y13, y14, y15, y16, y17, y18, k1, k2, G', k3, k4, k5, k6, ⟨k7, k8⟩, k9, k10⟩
  · refine ⟨r, _, _, _, _, ?_, ?_, G, L', mu, q, hG, hc, k4, hs, hp, ⟨by omega, rfl, rfl, fun k hk => hT9 k (by omega)⟩, rfl, hh, hsl⟩
    · unfold oC_parse
      dsimp only
      rw [k1, z_ob73]
    · unfold oM_parse
      dsimp only
      rw [k2, z_ob38]
  · refine ⟨0, _, _, _, _, ?_, ?_, G', 0, 0, q, k3, k4, k5, k6, Or.inl rfl, ⟨Nat.zero_le _, rfl, rfl, fun k hk => absurd hk (Nat.not_lt_zero k)⟩, rfl, ⟨rfl, rfl, hh.2.2.1, Nat.zero_le _, hh.2.2.2.2.1, fun i hi => absurd hi (Nat.not_lt_zero i)⟩, ?_⟩
    · unfold oC_parse
      dsimp only
      rw [k1, z_ob73]
    · unfold oM_parse
      dsimp only
      rw [k2, z_ob38]
    · intro s hs
      left
      have : s = 0 ∨ s = 1 := by omega
      rcases this with rfl | rfl
      · exact ⟨k7, k9⟩
      · exact ⟨k8, k10⟩
