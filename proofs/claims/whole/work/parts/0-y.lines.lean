theorem z_ob6 {a1 a2 a3 a4 a5 a6 γ : Type} {k : a1 → a2 → a3 → a4 → a5 → a6 → Option γ} {v1 : a1} {v2 : a2} {v3 : a3} {v4 : a4} {v5 : a5} {v6 : a6} : ob6 (some (v1, v2, v3, v4, v5, v6)) k = k v1 v2 v3 v4 v5 v6 := rfl
theorem z_ob7 {a1 a2 a3 a4 a5 a6 a7 γ : Type} {k : a1 → a2 → a3 → a4 → a5 → a6 → a7 → Option γ} {v1 : a1} {v2 : a2} {v3 : a3} {v4 : a4} {v5 : a5} {v6 : a6} {v7 : a7} : ob7 (some (v1, v2, v3, v4, v5, v6, v7)) k = k v1 v2 v3 v4 v5 v6 v7 := rfl
theorem z_ob9 {a1 a2 a3 a4 a5 a6 a7 a8 a9 γ : Type} {k : a1 → a2 → a3 → a4 → a5 → a6 → a7 → a8 → a9 → Option γ} {v1 : a1} {v2 : a2} {v3 : a3} {v4 : a4} {v5 : a5} {v6 : a6} {v7 : a7} {v8 : a8} {v9 : a9} : ob9 (some (v1, v2, v3, v4, v5, v6, v7, v8, v9)) k = k v1 v2 v3 v4 v5 v6 v7 v8 v9 := rfl
theorem z_ob10 {a1 a2 a3 a4 a5 a6 a7 a8 a9 a10 γ : Type} {k : a1 → a2 → a3 → a4 → a5 → a6 → a7 → a8 → a9 → a10 → Option γ} {v1 : a1} {v2 : a2} {v3 : a3} {v4 : a4} {v5 : a5} {v6 : a6} {v7 : a7} {v8 : a8} {v9 : a9} {v10 : a10} : ob10 (some (v1, v2, v3, v4, v5, v6, v7, v8, v9, v10)) k = k v1 v2 v3 v4 v5 v6 v7 v8 v9 v10 := rfl
theorem z_ob11 {a1 a2 a3 a4 a5 a6 a7 a8 a9 a10 a11 γ : Type} {k : a1 → a2 → a3 → a4 → a5 → a6 → a7 → a8 → a9 → a10 → a11 → Option γ} {v1 : a1} {v2 : a2} {v3 : a3} {v4 : a4} {v5 : a5} {v6 : a6} {v7 : a7} {v8 : a8} {v9 : a9} {v10 : a10} {v11 : a11} : ob11 (some (v1, v2, v3, v4, v5, v6, v7, v8, v9, v10, v11)) k = k v1 v2 v3 v4 v5 v6 v7 v8 v9 v10 v11 := rfl
theorem z_ob12 {a1 a2 a3 a4 a5 a6 a7 a8 a9 a10 a11 a12 γ : Type} {k : a1 → a2 → a3 → a4 → a5 → a6 → a7 → a8 → a9 → a10 → a11 → a12 → Option γ} {v1 : a1} {v2 : a2} {v3 : a3} {v4 : a4} {v5 : a5} {v6 : a6} {v7 : a7} {v8 : a8} {v9 : a9} {v10 : a10} {v11 : a11} {v12 : a12} : ob12 (some (v1, v2, v3, v4, v5, v6, v7, v8, v9, v10, v11, v12)) k = k v1 v2 v3 v4 v5 v6 v7 v8 v9 v10 v11 v12 := rfl
theorem z_ob14 {a1 a2 a3 a4 a5 a6 a7 a8 a9 a10 a11 a12 a13 a14 γ : Type} {k : a1 → a2 → a3 → a4 → a5 → a6 → a7 → a8 → a9 → a10 → a11 → a12 → a13 → a14 → Option γ} {v1 : a1} {v2 : a2} {v3 : a3} {v4 : a4} {v5 : a5} {v6 : a6} {v7 : a7} {v8 : a8} {v9 : a9} {v10 : a10} {v11 : a11} {v12 : a12} {v13 : a13} {v14 : a14} : ob14 (some (v1, v2, v3, v4, v5, v6, v7, v8, v9, v10, v11, v12, v13, v14)) k = k v1 v2 v3 v4 v5 v6 v7 v8 v9 v10 v11 v12 v13 v14 := rfl
theorem z_ob18 {a1 a2 a3 a4 a5 a6 a7 a8 a9 a10 a11 a12 a13 a14 a15 a16 a17 a18 γ : Type} {k : a1 → a2 → a3 → a4 → a5 → a6 → a7 → a8 → a9 → a10 → a11 → a12 → a13 → a14 → a15 → a16 → a17 → a18 → Option γ} {v1 : a1} {v2 : a2} {v3 : a3} {v4 : a4} {v5 : a5} {v6 : a6} {v7 : a7} {v8 : a8} {v9 : a9} {v10 : a10} {v11 : a11} {v12 : a12} {v13 : a13} {v14 : a14} {v15 : a15} {v16 : a16} {v17 : a17} {v18 : a18} : ob18 (some (v1, v2, v3, v4, v5, v6, v7, v8, v9, v10, v11, v12, v13, v14, v15, v16, v17, v18)) k = k v1 v2 v3 v4 v5 v6 v7 v8 v9 v10 v11 v12 v13 v14 v15 v16 v17 v18 := rfl
theorem z_ob20 {a1 a2 a3 a4 a5 a6 a7 a8 a9 a10 a11 a12 a13 a14 a15 a16 a17 a18 a19 a20 γ : Type} {k : a1 → a2 → a3 → a4 → a5 → a6 → a7 → a8 → a9 → a10 → a11 → a12 → a13 → a14 → a15 → a16 → a17 → a18 → a19 → a20 → Option γ} {v1 : a1} {v2 : a2} {v3 : a3} {v4 : a4} {v5 : a5} {v6 : a6} {v7 : a7} {v8 : a8} {v9 : a9} {v10 : a10} {v11 : a11} {v12 : a12} {v13 : a13} {v14 : a14} {v15 : a15} {v16 : a16} {v17 : a17} {v18 : a18} {v19 : a19} {v20 : a20} : ob20 (some (v1, v2, v3, v4, v5, v6, v7, v8, v9, v10, v11, v12, v13, v14, v15, v16, v17, v18, v19, v20)) k = k v1 v2 v3 v4 v5 v6 v7 v8 v9 v10 v11 v12 v13 v14 v15 v16 v17 v18 v19 v20 := rfl
theorem z_ob24 {a1 a2 a3 a4 a5 a6 a7 a8 a9 a10 a11 a12 a13 a14 a15 a16 a17 a18 a19 a20 a21 a22 a23 a24 γ : Type} {k : a1 → a2 → a3 → a4 → a5 → a6 → a7 → a8 → a9 → a10 → a11 → a12 → a13 → a14 → a15 → a16 → a17 → a18 → a19 → a20 → a21 → a22 → a23 → a24 → Option γ} {v1 : a1} {v2 : a2} {v3 : a3} {v4 : a4} {v5 : a5} {v6 : a6} {v7 : a7} {v8 : a8} {v9 : a9} {v10 : a10} {v11 : a11} {v12 : a12} {v13 : a13} {v14 : a14} {v15 : a15} {v16 : a16} {v17 : a17} {v18 : a18} {v19 : a19} {v20 : a20} {v21 : a21} {v22 : a22} {v23 : a23} {v24 : a24} : ob24 (some (v1, v2, v3, v4, v5, v6, v7, v8, v9, v10, v11, v12, v13, v14, v15, v16, v17, v18, v19, v20, v21, v22, v23, v24)) k = k v1 v2 v3 v4 v5 v6 v7 v8 v9 v10 v11 v12 v13 v14 v15 v16 v17 v18 v19 v20 v21 v22 v23 v24 := rfl
theorem z_ob29 {a1 a2 a3 a4 a5 a6 a7 a8 a9 a10 a11 a12 a13 a14 a15 a16 a17 a18 a19 a20 a21 a22 a23 a24 a25 a26 a27 a28 a29 γ : Type} {k : a1 → a2 → a3 → a4 → a5 → a6 → a7 → a8 → a9 → a10 → a11 → a12 → a13 → a14 → a15 → a16 → a17 → a18 → a19 → a20 → a21 → a22 → a23 → a24 → a25 → a26 → a27 → a28 → a29 → Option γ} {v1 : a1} {v2 : a2} {v3 : a3} {v4 : a4} {v5 : a5} {v6 : a6} {v7 : a7} {v8 : a8} {v9 : a9} {v10 : a10} {v11 : a11} {v12 : a12} {v13 : a13} {v14 : a14} {v15 : a15} {v16 : a16} {v17 : a17} {v18 : a18} {v19 : a19} {v20 : a20} {v21 : a21} {v22 : a22} {v23 : a23} {v24 : a24} {v25 : a25} {v26 : a26} {v27 : a27} {v28 : a28} {v29 : a29} : ob29 (some (v1, v2, v3, v4, v5, v6, v7, v8, v9, v10, v11, v12, v13, v14, v15, v16, v17, v18, v19, v20, v21, v22, v23, v24, v25, v26, v27, v28, v29)) k = k v1 v2 v3 v4 v5 v6 v7 v8 v9 v10 v11 v12 v13 v14 v15 v16 v17 v18 v19 v20 v21 v22 v23 v24 v25 v26 v27 v28 v29 := rfl
theorem z_ob30 {a1 a2 a3 a4 a5 a6 a7 a8 a9 a10 a11 a12 a13 a14 a15 a16 a17 a18 a19 a20 a21 a22 a23 a24 a25 a26 a27 a28 a29 a30 γ : Type} {k : a1 → a2 → a3 → a4 → a5 → a6 → a7 → a8 → a9 → a10 → a11 → a12 → a13 → a14 → a15 → a16 → a17 → a18 → a19 → a20 → a21 → a22 → a23 → a24 → a25 → a26 → a27 → a28 → a29 → a30 → Option γ} {v1 : a1} {v2 : a2} {v3 : a3} {v4 : a4} {v5 : a5} {v6 : a6} {v7 : a7} {v8 : a8} {v9 : a9} {v10 : a10} {v11 : a11} {v12 : a12} {v13 : a13} {v14 : a14} {v15 : a15} {v16 : a16} {v17 : a17} {v18 : a18} {v19 : a19} {v20 : a20} {v21 : a21} {v22 : a22} {v23 : a23} {v24 : a24} {v25 : a25} {v26 : a26} {v27 : a27} {v28 : a28} {v29 : a29} {v30 : a30} : ob30 (some (v1, v2, v3, v4, v5, v6, v7, v8, v9, v10, v11, v12, v13, v14, v15, v16, v17, v18, v19, v20, v21, v22, v23, v24, v25, v26, v27, v28, v29, v30)) k = k v1 v2 v3 v4 v5 v6 v7 v8 v9 v10 v11 v12 v13 v14 v15 v16 v17 v18 v19 v20 v21 v22 v23 v24 v25 v26 v27 v28 v29 v30 := rfl
theorem z_ob31 {a1 a2 a3 a4 a5 a6 a7 a8 a9 a10 a11 a12 a13 a14 a15 a16 a17 a18 a19 a20 a21 a22 a23 a24 a25 a26 a27 a28 a29 a30 a31 γ : Type} {k : a1 → a2 → a3 → a4 → a5 → a6 → a7 → a8 → a9 → a10 → a11 → a12 → a13 → a14 → a15 → a16 → a17 → a18 → a19 → a20 → a21 → a22 → a23 → a24 → a25 → a26 → a27 → a28 → a29 → a30 → a31 → Option γ} {v1 : a1} {v2 : a2} {v3 : a3} {v4 : a4} {v5 : a5} {v6 : a6} {v7 : a7} {v8 : a8} {v9 : a9} {v10 : a10} {v11 : a11} {v12 : a12} {v13 : a13} {v14 : a14} {v15 : a15} {v16 : a16} {v17 : a17} {v18 : a18} {v19 : a19} {v20 : a20} {v21 : a21} {v22 : a22} {v23 : a23} {v24 : a24} {v25 : a25} {v26 : a26} {v27 : a27} {v28 : a28} {v29 : a29} {v30 : a30} {v31 : a31} : ob31 (some (v1, v2, v3, v4, v5, v6, v7, v8, v9, v10, v11, v12, v13, v14, v15, v16, v17, v18, v19, v20, v21, v22, v23, v24, v25, v26, v27, v28, v29, v30, v31)) k = k v1 v2 v3 v4 v5 v6 v7 v8 v9 v10 v11 v12 v13 v14 v15 v16 v17 v18 v19 v20 v21 v22 v23 v24 v25 v26 v27 v28 v29 v30 v31 := rfl
theorem z_ob33 {a1 a2 a3 a4 a5 a6 a7 a8 a9 a10 a11 a12 a13 a14 a15 a16 a17 a18 a19 a20 a21 a22 a23 a24 a25 a26 a27 a28 a29 a30 a31 a32 a33 γ : Type} {k : a1 → a2 → a3 → a4 → a5 → a6 → a7 → a8 → a9 → a10 → a11 → a12 → a13 → a14 → a15 → a16 → a17 → a18 → a19 → a20 → a21 → a22 → a23 → a24 → a25 → a26 → a27 → a28 → a29 → a30 → a31 → a32 → a33 → Option γ} {v1 : a1} {v2 : a2} {v3 : a3} {v4 : a4} {v5 : a5} {v6 : a6} {v7 : a7} {v8 : a8} {v9 : a9} {v10 : a10} {v11 : a11} {v12 : a12} {v13 : a13} {v14 : a14} {v15 : a15} {v16 : a16} {v17 : a17} {v18 : a18} {v19 : a19} {v20 : a20} {v21 : a21} {v22 : a22} {v23 : a23} {v24 : a24} {v25 : a25} {v26 : a26} {v27 : a27} {v28 : a28} {v29 : a29} {v30 : a30} {v31 : a31} {v32 : a32} {v33 : a33} : ob33 (some (v1, v2, v3, v4, v5, v6, v7, v8, v9, v10, v11, v12, v13, v14, v15, v16, v17, v18, v19, v20, v21, v22, v23, v24, v25, v26, v27, v28, v29, v30, v31, v32, v33)) k = k v1 v2 v3 v4 v5 v6 v7 v8 v9 v10 v11 v12 v13 v14 v15 v16 v17 v18 v19 v20 v21 v22 v23 v24 v25 v26 v27 v28 v29 v30 v31 v32 v33 := rfl
/-- one number of a siege is another -/
def gU (G : Nat → Nat → Nat) (i k v : Nat) : Nat → Nat → Nat := fun a => if a = i then (fun j => if j = k then v else G a j) else G a
theorem z_gI1 {γ : Type} {k : Option γ} : gIx 1 2 k = k := z_gIx (i := 1) (by omega) (by omega)
theorem z_c1 : (1 : Int32).toNatClampNeg = 1 := rfl
theorem b_le {v k : Nat} (hv : v < 2 ^ 31) (hk : k < 2 ^ 31) (h : nI v ≤ nI k) : v ≤ k := by rw [z_le hv hk] at h; exact h
theorem b_ge {v k : Nat} (hv : v < 2 ^ 31) (hk : k < 2 ^ 31) (h : ¬ nI v < nI k) : k ≤ v := by rw [z_lt hv hk] at h; omega
theorem b_lt {v n : Nat} (hv : v < 2 ^ 30) (hn : n < 2 ^ 30) (h : nI v ≤ nI n - 1) : v < n := by
  rw [Int32.le_iff_toInt_le, q_toInt hn, nI_toInt (by omega)] at h; omega
theorem b_nlt {v n : Nat} (hv : v < 2 ^ 30) (hn : n < 2 ^ 30) (h : ¬ nI v ≤ nI n - 1) : n ≤ v := by
  rw [Int32.le_iff_toInt_le, q_toInt hn, nI_toInt (by omega)] at h; omega
variable {G : Nat → Nat → Nat} {regions balloons letters loft start seed count turnCount : Int32} {risk distance comeback capacity pigeons weight priority turnFrom turnTo follow land aimCount aim : Nat → Int32} {mLoft mStart mSeed : Int32} {mRegions mRisk mDistance mBack mWinds mNamed mNR mNW mTurns mTF mTT mTW mBalloons mRoom mPigeons mLetters mWeight mPriority : Nat → Int32}
variable {G0 : Nat → Nat → Nat}
/-- the class's new siege -/
def DC (G : Nat → Nat → Nat) (regions balloons letters loft start seed count turnCount : Int32) (risk distance comeback capacity pigeons weight priority turnFrom turnTo follow land aimCount aim : Nat → Int32) : Prop := RGc G regions balloons letters loft start seed count turnCount risk distance comeback capacity pigeons weight priority turnFrom turnTo follow land aimCount aim ∧ ∀ w v, w < G 0 1 → v < 6 → follow (w * 6 + v) = nI (tF (G 0 2) (G 7) (G 8) (G 9) w v)
/-- the model's draft -/
def DM (G : Nat → Nat → Nat) (mRegions mRisk mDistance mBack mWinds mNamed mNR mNW mTurns mTF mTT mTW mBalloons mRoom mPigeons mLetters mWeight mPriority : Nat → Int32) : Prop :=
  (mRegions 1 = nI (G 0 0) ∧ mWinds 1 = nI (G 0 1) ∧ mTurns 1 = nI (G 0 2) ∧ mBalloons 1 = nI (G 0 3) ∧ mLetters 1 = nI (G 0 4)) ∧
  (∀ k, k < G 0 0 → mRisk (8 + k) = nI (G 1 k) ∧ mDistance (8 + k) = nI (G 2 k) ∧ mBack (8 + k) = nI (G 3 k)) ∧
  (∀ b, b < G 0 3 → mRoom (10 + b) = nI (G 10 b) ∧ mPigeons (10 + b) = nI (G 11 b)) ∧
  (∀ k, k < G 0 4 → mWeight (24 + k) = nI (G 12 k) ∧ mPriority (24 + k) = nI (G 13 k)) ∧
  (∀ k, k < G 0 2 → mTF (30 + k) = nI (G 7 k) ∧ mTT (30 + k) = nI (G 8 k) ∧ mTW (30 + k) = nI (G 9 k)) ∧
  (∀ w, w < G 0 1 → mNamed (6 + w) = nI (G 4 w)) ∧
  (∀ w k, w < G 0 1 → k < G 4 w → mNR (8 * (6 + w) + k) = nI (G 5 (8 * w + k)) ∧ mNW (8 * (6 + w) + k) = nI (G 6 (8 * w + k)))
/-- a statement that may stand once -/
def DF (flag dm : Int32) (g d : Nat) : Prop := (flag = 0 ∧ dm = -2 ∧ g = d) ∨ (flag = 1 ∧ dm = nI g)
/-- the lower halves are the same -/
theorem RGm_lo {mRegions' mRisk' mDistance' mBack' mWinds' mNamed' mNR' mNW' mTurns' mTF' mTT' mTW' mBalloons' mRoom' mPigeons' mLetters' mWeight' mPriority' : Nat → Int32} (hG : WF G) (hm : RGm G mLoft mStart mSeed mRegions mRisk mDistance mBack mWinds mNamed mNR mNW mTurns mTF mTT mTW mBalloons mRoom mPigeons mLetters mWeight mPriority) (e0 : ∀ k, k < 1 → mRegions' k = mRegions k) (e1 : ∀ k, k < 8 → mRisk' k = mRisk k) (e2 : ∀ k, k < 8 → mDistance' k = mDistance k) (e3 : ∀ k, k < 8 → mBack' k = mBack k) (e4 : ∀ k, k < 1 → mWinds' k = mWinds k) (e5 : ∀ k, k < 6 → mNamed' k = mNamed k) (e6 : ∀ k, k < 48 → mNR' k = mNR k) (e7 : ∀ k, k < 48 → mNW' k = mNW k) (e8 : ∀ k, k < 1 → mTurns' k = mTurns k) (e9 : ∀ k, k < 30 → mTF' k = mTF k) (e10 : ∀ k, k < 30 → mTT' k = mTT k) (e11 : ∀ k, k < 30 → mTW' k = mTW k) (e12 : ∀ k, k < 1 → mBalloons' k = mBalloons k) (e13 : ∀ k, k < 10 → mRoom' k = mRoom k) (e14 : ∀ k, k < 10 → mPigeons' k = mPigeons k) (e15 : ∀ k, k < 1 → mLetters' k = mLetters k) (e16 : ∀ k, k < 24 → mWeight' k = mWeight k) (e17 : ∀ k, k < 24 → mPriority' k = mPriority k) : RGm G mLoft mStart mSeed mRegions' mRisk' mDistance' mBack' mWinds' mNamed' mNR' mNW' mTurns' mTF' mTT' mTW' mBalloons' mRoom' mPigeons' mLetters' mWeight' mPriority' := by
  obtain ⟨⟨g0, g1, g2, g3, g4, g5, g6, g7⟩, gr, ⟨gna, gn1, gn2, gn3⟩, ⟨gt1, gt2, gt3⟩, gb, gl⟩ := hG
  obtain ⟨⟨m0, m1, m2, m3, m4, m5, m6, m7⟩, mr, mb, ml, mt, mna, mnr⟩ := hm
  refine ⟨⟨(e0 0 (by omega)).trans m0, (e4 0 (by omega)).trans m1, (e8 0 (by omega)).trans m2, (e12 0 (by omega)).trans m3, (e15 0 (by omega)).trans m4, m5, m6, m7⟩, fun k hk => ?_, fun k hk => ?_, fun k hk => ?_, fun k hk => ?_, fun k hk => ?_, fun k j hk hj => ?_⟩
  · rw [e1 k (by omega), e2 k (by omega), e3 k (by omega)]; exact mr k hk
  · rw [e13 k (by omega), e14 k (by omega)]; exact mb k hk
  · rw [e16 k (by omega), e17 k (by omega)]; exact ml k hk
  · rw [e9 k (by omega), e10 k (by omega), e11 k (by omega)]; exact mt k hk
  · rw [e5 k (by omega)]; exact mna k hk
  · have := gna k hk
    rw [e6 _ (by omega), e7 _ (by omega)]; exact mnr k j hk hj
section
variable {N e : Nat} {c m : Nat → Int32} {S Q K V : Nat → Nat} {st nx tk vv : Int32} {p : Nat}
theorem x_open (h : LX N e c m S Q K V) (hp : p ≤ e) (ht : TM S Q K V p st nx tk vv) (ea : Int32) : ∃ w, f_X9_opens N (nI e) st nx tk vv 0 ea m 1 = some (1, nI (S (Q p)), nI (Q (Q p)), nI (K (Q p)), w, 0, ea) ∧ TM S Q K V (Q p) (nI (S (Q p))) (nI (Q (Q p))) (nI (K (Q p))) w := by
  obtain ⟨rfl, rfl, rfl, hv⟩ := ht
  obtain ⟨_, _, ⟨w, w1, w2⟩, _⟩ := h (Q p) (h p hp).1.2.2.1
  refine ⟨w, ?_, rfl, rfl, rfl, w2⟩
  unfold f_X9_opens
  rw [if_neg (by decide), w1, z_ob4]
theorem x_shut (ht : TM S Q K V p st nx tk vv) (ea : Int32) : f_X9_opens N (nI e) st nx tk vv 0 ea m 0 = some (0, st, nx, tk, vv, 4, nI (S p)) := by
  obtain ⟨rfl, rfl, rfl, hv⟩ := ht
  rfl
theorem WF_region {v1 v2 v3 : Nat} (hG : WF G) (hn : G 0 0 < 8) (b1 : v1 ≤ 10) (b2 : 1 ≤ v2 ∧ v2 ≤ 9) (b3 : v3 ≤ 10) : WF (gU (gU (gU (gU G 1 (G 0 0) (v1)) 2 (G 0 0) (v2)) 3 (G 0 0) (v3)) 0 0 (G 0 0 + 1)) := by
  obtain ⟨⟨g0, g1, g2, g3, g4, g5, g6, g7⟩, gr, ⟨gna, gn1, gn2, gn3⟩, ⟨gt1, gt2, gt3⟩, gb, gl⟩ := hG
  refine ⟨⟨by show G 0 0 + 1 ≤ 8; omega, g1, g2, g3, g4, g5, g6, g7⟩, fun k hk => ?_, ⟨gna, fun w k hw hk => ?_, gn2, gn3⟩, ⟨gt1, gt2, gt3⟩, gb, gl⟩
  · have hk : k < G 0 0 + 1 := hk
    show (if k = G 0 0 then v1 else G 1 k) ≤ 10 ∧ 1 ≤ (if k = G 0 0 then v2 else G 2 k) ∧ (if k = G 0 0 then v2 else G 2 k) ≤ 9 ∧ (if k = G 0 0 then v3 else G 3 k) ≤ 10
    by_cases e1 : k = G 0 0
    · simp only [if_pos e1]; omega
    · simp only [if_neg e1]; exact gr k (by omega)
  · have := gn1 w k hw hk
    show G 5 (8 * w + k) < G 0 0 + 1 ∧ 1 ≤ G 6 (8 * w + k) ∧ G 6 (8 * w + k) ≤ 10
    omega
theorem DC_region {v1 v2 v3 : Nat} (hc : DC G regions balloons letters loft start seed count turnCount risk distance comeback capacity pigeons weight priority turnFrom turnTo follow land aimCount aim) : DC (gU (gU (gU (gU G 1 (G 0 0) (v1)) 2 (G 0 0) (v2)) 3 (G 0 0) (v3)) 0 0 (G 0 0 + 1)) (nI (G 0 0 + 1)) balloons letters loft start seed count turnCount (upd risk (G 0 0) (nI v1)) (upd distance (G 0 0) (nI v2)) (upd comeback (G 0 0) (nI v3)) capacity pigeons weight priority turnFrom turnTo follow land aimCount aim := by
  obtain ⟨⟨⟨c1, c2, c3, c4, c5, c6, c7, c8⟩, cr, cb, cl, ct, cf, cla, cac, cai⟩, cx⟩ := hc
  refine ⟨⟨⟨rfl, c2, c3, c4, c5, c6, c7, c8⟩, fun k hk => ?_, cb, cl, ct, cf, cla, cac, cai⟩, cx⟩
  have hk : k < G 0 0 + 1 := hk
  show upd risk (G 0 0) (nI v1) k = nI (if k = G 0 0 then v1 else G 1 k) ∧ upd distance (G 0 0) (nI v2) k = nI (if k = G 0 0 then v2 else G 2 k) ∧ upd comeback (G 0 0) (nI v3) k = nI (if k = G 0 0 then v3 else G 3 k)
  by_cases e1 : k = G 0 0
  · simp only [if_pos e1]; rw [e1]; exact ⟨pk_us, pk_us, pk_us⟩
  · simp only [if_neg e1, pk_un e1]; exact cr k (by omega)
theorem DM_region {v1 v2 v3 : Nat} (hm : DM G mRegions mRisk mDistance mBack mWinds mNamed mNR mNW mTurns mTF mTT mTW mBalloons mRoom mPigeons mLetters mWeight mPriority) : DM (gU (gU (gU (gU G 1 (G 0 0) (v1)) 2 (G 0 0) (v2)) 3 (G 0 0) (v3)) 0 0 (G 0 0 + 1)) (upd mRegions 1 (nI (G 0 0 + 1))) (upd mRisk (8 + G 0 0) (nI v1)) (upd mDistance (8 + G 0 0) (nI v2)) (upd mBack (8 + G 0 0) (nI v3)) mWinds mNamed mNR mNW mTurns mTF mTT mTW mBalloons mRoom mPigeons mLetters mWeight mPriority := by
  obtain ⟨⟨m0, m1, m2, m3, m4⟩, mr, mb, ml, mt, mna, mnr⟩ := hm
  refine ⟨⟨pk_us, m1, m2, m3, m4⟩, fun k hk => ?_, mb, ml, mt, mna, mnr⟩
  have hk : k < G 0 0 + 1 := hk
  show upd mRisk (8 + G 0 0) (nI v1) (8 + k) = nI (if k = G 0 0 then v1 else G 1 k) ∧ upd mDistance (8 + G 0 0) (nI v2) (8 + k) = nI (if k = G 0 0 then v2 else G 2 k) ∧ upd mBack (8 + G 0 0) (nI v3) (8 + k) = nI (if k = G 0 0 then v3 else G 3 k)
  by_cases e1 : k = G 0 0
  · simp only [if_pos e1]; rw [e1]; exact ⟨pk_us, pk_us, pk_us⟩
  · have e2 : 8 + k ≠ 8 + G 0 0 := by omega
    simp only [if_neg e1, pk_un e2]; exact mr k (by omega)
theorem l_region (hN : 3000 < N) (he : e ≤ 900) (hL : LX N e c m S Q K V) (hG0 : WF G0) (hG : WF G) (hc : DC G regions balloons letters loft start seed count turnCount risk distance comeback capacity pigeons weight priority turnFrom turnTo follow land aimCount aim) (hm : DM G mRegions mRisk mDistance mBack mWinds mNamed mNR mNW mTurns mTF mTT mTW mBalloons mRoom mPigeons mLetters mWeight mPriority) (h0 : RGm G0 mLoft mStart mSeed mRegions mRisk mDistance mBack mWinds mNamed mNR mNW mTurns mTF mTT mTW mBalloons mRoom mPigeons mLetters mWeight mPriority) (hp : p ≤ e) (ht : TM S Q K V p st nx tk vv) (kind value code number ea : Int32) :
    (∃ ka sc pc kc vc nu nst nnx ntk nvv x1 x2 x3 x4 y1 y2 y3 y4, ka ≠ 0 ∧ f_X4_readRegion N regions (nI (S p)) (nI e) (nI (Q p)) kind value code c risk distance comeback = some (0, x1, sc, pc, kc, vc, ka, x2, x3, x4) ∧ f_X9_regionLine N (nI e) st nx tk vv 0 ea number mRegions m mRisk mDistance mBack = some (0, nst, nnx, ntk, nvv, ka, sc, nu, y1, y2, y3, y4) ∧ RGm G0 mLoft mStart mSeed y1 y2 y3 y4 mWinds mNamed mNR mNW mTurns mTF mTT mTW mBalloons mRoom mPigeons mLetters mWeight mPriority) ∨
    (∃ q sc vc nu nst nnx ntk nvv x1 x2 x3 x4 y1 y2 y3 y4, p < q ∧ q ≤ e ∧ f_X4_readRegion N regions (nI (S p)) (nI e) (nI (Q p)) kind value code c risk distance comeback = some (1, x1, sc, nI q, 2, vc, code, x2, x3, x4) ∧ f_X9_regionLine N (nI e) st nx tk vv 0 ea number mRegions m mRisk mDistance mBack = some (1, nst, nnx, ntk, nvv, 0, ea, nu, y1, y2, y3, y4) ∧ TM S Q K V q nst nnx ntk nvv ∧ RGm G0 mLoft mStart mSeed y1 y2 y3 y4 mWinds mNamed mNR mNW mTurns mTF mTT mTW mBalloons mRoom mPigeons mLetters mWeight mPriority ∧ ∃ G', WF G' ∧ DC G' x1 balloons letters loft start seed count turnCount x2 x3 x4 capacity pigeons weight priority turnFrom turnTo follow land aimCount aim ∧ DM G' y1 y2 y3 y4 mWinds mNamed mNR mNW mTurns mTF mTT mTW mBalloons mRoom mPigeons mLetters mWeight mPriority ∧ G' 0 5 = G 0 5 ∧ G' 0 6 = G 0 6 ∧ G' 0 7 = G 0 7 ∧ G' 0 1 = G 0 1) := by
  obtain ⟨⟨⟨c1, c2, c3, c4, c5, c6, c7, c8⟩, _⟩, _⟩ := id hc
  obtain ⟨⟨m0, m1, m2, m3, m4⟩, _⟩ := id hm
  obtain ⟨⟨g0, g1, g2, g3, g4, g5, g6, g7⟩, _⟩ := id hG
  obtain ⟨⟨f1, f2, f3, f4, f5, f6⟩, _⟩ := hL p hp
  obtain ⟨⟨f1a, f2a, f3a, _, _, f6a⟩, _⟩ := hL (Q p) f3
  obtain ⟨⟨f1b, f2b, f3b, _, _, f6b⟩, _⟩ := hL (Q (Q p)) f3a
  obtain ⟨⟨f1c, f2c, f3c, _, _, f6c⟩, _⟩ := hL (Q (Q (Q p))) f3b
  unfold f_X4_readRegion f_X9_regionLine
  rw [z_gI1, z_gI1, z_c1, m0, c1, show (8 : Int32) = nI 8 from rfl, z_add]
  simp (disch := omega) only [z_lt, z_le]
  by_cases hn : G 0 0 < 8
  · rw [if_pos hn, if_neg (by omega)]
    unfold f_X9_regionLine_j27
    obtain ⟨w0, o1, t1⟩ := x_open hL hp ht ea
    rw [o1, z_ob7, if_neg (by decide)]
    rcases x_num hL he f3 t1 kind value code number ea 0 10 with ⟨k1_, lo1, hi1, cr1, s1, n1, d1, u1, t2, mr1⟩ | ⟨ka, v', hka, _, cr, mr⟩
    rotate_left
    · left
      rw [cr, z_ob6, if_pos rfl, mr, z_ob8, if_pos rfl]
      exact ⟨ka, _, _, _, _, _, _, _, _, _, _, _, _, _, _, _, _, _, hka, rfl, rfl, (RGm_lo hG0 h0 (fun _ _ => rfl) (fun _ _ => rfl) (fun _ _ => rfl) (fun _ _ => rfl) (fun _ _ => rfl) (fun _ _ => rfl) (fun _ _ => rfl) (fun _ _ => rfl) (fun _ _ => rfl) (fun _ _ => rfl) (fun _ _ => rfl) (fun _ _ => rfl) (fun _ _ => rfl) (fun _ _ => rfl) (fun _ _ => rfl) (fun _ _ => rfl) (fun _ _ => rfl) (fun _ _ => rfl))⟩
    rw [cr1, z_ob6, if_neg (by decide), mr1, z_ob8, if_neg (by decide), z_gIx (i := 8 + G 0 0) (by omega) (by omega), z_cl (n := 8 + G 0 0) (by omega)]
    rcases x_num hL he f3a t2 2 (nI (V (Q p))) code (nI (V (Q p))) ea 1 9 with ⟨k2_, lo2, hi2, cr2, s2, n2, d2, u2, t3, mr2⟩ | ⟨ka, v', hka, _, cr, mr⟩
    rotate_left
    · left
      rw [cr, z_ob6, if_pos rfl, mr, z_ob8, if_pos rfl]
      exact ⟨ka, _, _, _, _, _, _, _, _, _, _, _, _, _, _, _, _, _, hka, rfl, rfl, (RGm_lo hG0 h0 (fun _ _ => rfl) (fun k hk => pk_un (by omega)) (fun _ _ => rfl) (fun _ _ => rfl) (fun _ _ => rfl) (fun _ _ => rfl) (fun _ _ => rfl) (fun _ _ => rfl) (fun _ _ => rfl) (fun _ _ => rfl) (fun _ _ => rfl) (fun _ _ => rfl) (fun _ _ => rfl) (fun _ _ => rfl) (fun _ _ => rfl) (fun _ _ => rfl) (fun _ _ => rfl) (fun _ _ => rfl))⟩
    rw [cr2, z_ob6, if_neg (by decide), mr2, z_ob8, if_neg (by decide), z_gIx (i := 8 + G 0 0) (by omega) (by omega)]
    rcases x_num hL he f3b t3 2 (nI (V (Q (Q p)))) code (nI (V (Q (Q p)))) ea 0 10 with ⟨k3_, lo3, hi3, cr3, s3, n3, d3, u3, t4, mr3⟩ | ⟨ka, v', hka, _, cr, mr⟩
    rotate_left
    · left
      rw [cr, z_ob6, if_pos rfl, mr, z_ob8, if_pos rfl]
      exact ⟨ka, _, _, _, _, _, _, _, _, _, _, _, _, _, _, _, _, _, hka, rfl, rfl, (RGm_lo hG0 h0 (fun _ _ => rfl) (fun k hk => pk_un (by omega)) (fun k hk => pk_un (by omega)) (fun _ _ => rfl) (fun _ _ => rfl) (fun _ _ => rfl) (fun _ _ => rfl) (fun _ _ => rfl) (fun _ _ => rfl) (fun _ _ => rfl) (fun _ _ => rfl) (fun _ _ => rfl) (fun _ _ => rfl) (fun _ _ => rfl) (fun _ _ => rfl) (fun _ _ => rfl) (fun _ _ => rfl) (fun _ _ => rfl))⟩
    rw [cr3, z_ob6, if_neg (by decide), mr3, z_ob8, if_neg (by decide), z_gIx (i := 8 + G 0 0) (by omega) (by omega)]
    right
    rw [z_gI1, z_gI1, z_c1, m0, nI_1]
    unfold f_X5_addRegion
    rw [show (8 : Int32) = nI 8 from rfl, if_neg (by rw [z_le (by omega) (by omega)]; omega), z_gIx (by omega) (by omega), z_gIx (by omega) (by omega), z_gIx (by omega) (by omega), nI_1, z_cl (by omega), z_ob4]
    have b1 : V (Q p) ≤ 10 := b_le (k := 10) (by have := f6a k1_; omega) (by omega) hi1
    have b2 : V (Q (Q p)) ≤ 9 := b_le (k := 9) (by have := f6b k2_; omega) (by omega) hi2
    have a2 : 1 ≤ V (Q (Q p)) := b_ge (k := 1) (by omega) (by omega) lo2
    have b3 : V (Q (Q (Q p))) ≤ 10 := b_le (k := 10) (by have := f6c k3_; omega) (by omega) hi3
    refine ⟨(Q (Q (Q (Q p)))), _, _, _, _, _, _, _, _, _, _, _, _, _, _, _, ?_, f3c, rfl, rfl, t4, (RGm_lo hG0 h0 (fun k hk => pk_un (by omega)) (fun k hk => pk_un (by omega)) (fun k hk => pk_un (by omega)) (fun k hk => pk_un (by omega)) (fun _ _ => rfl) (fun _ _ => rfl) (fun _ _ => rfl) (fun _ _ => rfl) (fun _ _ => rfl) (fun _ _ => rfl) (fun _ _ => rfl) (fun _ _ => rfl) (fun _ _ => rfl) (fun _ _ => rfl) (fun _ _ => rfl) (fun _ _ => rfl) (fun _ _ => rfl) (fun _ _ => rfl)), _, WF_region hG hn b1 ⟨a2, b2⟩ b3, DC_region hc, DM_region hm, rfl, rfl, rfl, rfl⟩
    have := (hL (Q p) f3).1.2.2.2.2.1 (by omega)
    omega
  · left
    rw [if_neg hn, if_pos (by omega)]
    unfold f_X9_regionLine_j27 f_X4_fail
    rw [x_shut ht ea, z_ob7, if_pos rfl, z_ob2]
    exact ⟨4, _, _, _, _, _, _, _, _, _, _, _, _, _, _, _, _, _, by decide, rfl, rfl, h0⟩
theorem WF_balloon {v1 v2 : Nat} (hG : WF G) (hn : G 0 3 < 10) (b1 : 1 ≤ v1 ∧ v1 ≤ 999) (b2 : v2 ≤ 4) : WF (gU (gU (gU G 10 (G 0 3) (v1)) 11 (G 0 3) (v2)) 0 3 (G 0 3 + 1)) := by
  obtain ⟨⟨g0, g1, g2, g3, g4, g5, g6, g7⟩, gr, ⟨gna, gn1, gn2, gn3⟩, ⟨gt1, gt2, gt3⟩, gb, gl⟩ := hG
  refine ⟨⟨g0, g1, g2, by show G 0 3 + 1 ≤ 10; omega, g4, g5, g6, g7⟩, gr, ⟨gna, gn1, gn2, gn3⟩, ⟨gt1, gt2, gt3⟩, fun k hk => ?_, gl⟩
  · have hk : k < G 0 3 + 1 := hk
    show 1 ≤ (if k = G 0 3 then v1 else G 10 k) ∧ (if k = G 0 3 then v1 else G 10 k) ≤ 999 ∧ (if k = G 0 3 then v2 else G 11 k) ≤ 4
    by_cases e1 : k = G 0 3
    · simp only [if_pos e1]; omega
    · simp only [if_neg e1]; exact gb k (by omega)
theorem DC_balloon {v1 v2 : Nat} (hc : DC G regions balloons letters loft start seed count turnCount risk distance comeback capacity pigeons weight priority turnFrom turnTo follow land aimCount aim) : DC (gU (gU (gU G 10 (G 0 3) (v1)) 11 (G 0 3) (v2)) 0 3 (G 0 3 + 1)) regions (nI (G 0 3 + 1)) letters loft start seed count turnCount risk distance comeback (upd capacity (G 0 3) (nI v1)) (upd pigeons (G 0 3) (nI v2)) weight priority turnFrom turnTo follow land aimCount aim := by
  obtain ⟨⟨⟨c1, c2, c3, c4, c5, c6, c7, c8⟩, cr, cb, cl, ct, cf, cla, cac, cai⟩, cx⟩ := hc
  refine ⟨⟨⟨c1, rfl, c3, c4, c5, c6, c7, c8⟩, cr, fun k hk => ?_, cl, ct, cf, cla, cac, cai⟩, cx⟩
  have hk : k < G 0 3 + 1 := hk
  show upd capacity (G 0 3) (nI v1) k = nI (if k = G 0 3 then v1 else G 10 k) ∧ upd pigeons (G 0 3) (nI v2) k = nI (if k = G 0 3 then v2 else G 11 k)
  by_cases e1 : k = G 0 3
  · simp only [if_pos e1]; rw [e1]; exact ⟨pk_us, pk_us⟩
  · simp only [if_neg e1, pk_un e1]; exact cb k (by omega)
theorem DM_balloon {v1 v2 : Nat} (hm : DM G mRegions mRisk mDistance mBack mWinds mNamed mNR mNW mTurns mTF mTT mTW mBalloons mRoom mPigeons mLetters mWeight mPriority) : DM (gU (gU (gU G 10 (G 0 3) (v1)) 11 (G 0 3) (v2)) 0 3 (G 0 3 + 1)) mRegions mRisk mDistance mBack mWinds mNamed mNR mNW mTurns mTF mTT mTW (upd mBalloons 1 (nI (G 0 3 + 1))) (upd mRoom (10 + G 0 3) (nI v1)) (upd mPigeons (10 + G 0 3) (nI v2)) mLetters mWeight mPriority := by
  obtain ⟨⟨m0, m1, m2, m3, m4⟩, mr, mb, ml, mt, mna, mnr⟩ := hm
  refine ⟨⟨m0, m1, m2, pk_us, m4⟩, mr, fun k hk => ?_, ml, mt, mna, mnr⟩
  have hk : k < G 0 3 + 1 := hk
  show upd mRoom (10 + G 0 3) (nI v1) (10 + k) = nI (if k = G 0 3 then v1 else G 10 k) ∧ upd mPigeons (10 + G 0 3) (nI v2) (10 + k) = nI (if k = G 0 3 then v2 else G 11 k)
  by_cases e1 : k = G 0 3
  · simp only [if_pos e1]; rw [e1]; exact ⟨pk_us, pk_us⟩
  · have e2 : 10 + k ≠ 10 + G 0 3 := by omega
    simp only [if_neg e1, pk_un e2]; exact mb k (by omega)
theorem l_balloon (hN : 3000 < N) (he : e ≤ 900) (hL : LX N e c m S Q K V) (hG0 : WF G0) (hG : WF G) (hc : DC G regions balloons letters loft start seed count turnCount risk distance comeback capacity pigeons weight priority turnFrom turnTo follow land aimCount aim) (hm : DM G mRegions mRisk mDistance mBack mWinds mNamed mNR mNW mTurns mTF mTT mTW mBalloons mRoom mPigeons mLetters mWeight mPriority) (h0 : RGm G0 mLoft mStart mSeed mRegions mRisk mDistance mBack mWinds mNamed mNR mNW mTurns mTF mTT mTW mBalloons mRoom mPigeons mLetters mWeight mPriority) (hp : p ≤ e) (ht : TM S Q K V p st nx tk vv) (kind value code number ea : Int32) :
    (∃ ka sc pc kc vc nu nst nnx ntk nvv x1 x2 x3 y1 y2 y3, ka ≠ 0 ∧ f_X4_readBalloon N balloons (nI (S p)) (nI e) (nI (Q p)) kind value code c capacity pigeons = some (0, x1, sc, pc, kc, vc, ka, x2, x3) ∧ f_X9_balloonLine N (nI e) st nx tk vv 0 ea number mBalloons m mRoom mPigeons = some (0, nst, nnx, ntk, nvv, ka, sc, nu, y1, y2, y3) ∧ RGm G0 mLoft mStart mSeed mRegions mRisk mDistance mBack mWinds mNamed mNR mNW mTurns mTF mTT mTW y1 y2 y3 mLetters mWeight mPriority) ∨
    (∃ q sc vc nu nst nnx ntk nvv x1 x2 x3 y1 y2 y3, p < q ∧ q ≤ e ∧ f_X4_readBalloon N balloons (nI (S p)) (nI e) (nI (Q p)) kind value code c capacity pigeons = some (1, x1, sc, nI q, 2, vc, code, x2, x3) ∧ f_X9_balloonLine N (nI e) st nx tk vv 0 ea number mBalloons m mRoom mPigeons = some (1, nst, nnx, ntk, nvv, 0, ea, nu, y1, y2, y3) ∧ TM S Q K V q nst nnx ntk nvv ∧ RGm G0 mLoft mStart mSeed mRegions mRisk mDistance mBack mWinds mNamed mNR mNW mTurns mTF mTT mTW y1 y2 y3 mLetters mWeight mPriority ∧ ∃ G', WF G' ∧ DC G' regions x1 letters loft start seed count turnCount risk distance comeback x2 x3 weight priority turnFrom turnTo follow land aimCount aim ∧ DM G' mRegions mRisk mDistance mBack mWinds mNamed mNR mNW mTurns mTF mTT mTW y1 y2 y3 mLetters mWeight mPriority ∧ G' 0 5 = G 0 5 ∧ G' 0 6 = G 0 6 ∧ G' 0 7 = G 0 7 ∧ G' 0 1 = G 0 1) := by
  obtain ⟨⟨⟨c1, c2, c3, c4, c5, c6, c7, c8⟩, _⟩, _⟩ := id hc
  obtain ⟨⟨m0, m1, m2, m3, m4⟩, _⟩ := id hm
  obtain ⟨⟨g0, g1, g2, g3, g4, g5, g6, g7⟩, _⟩ := id hG
  obtain ⟨⟨f1, f2, f3, f4, f5, f6⟩, _⟩ := hL p hp
  obtain ⟨⟨f1a, f2a, f3a, _, _, f6a⟩, _⟩ := hL (Q p) f3
  obtain ⟨⟨f1b, f2b, f3b, _, _, f6b⟩, _⟩ := hL (Q (Q p)) f3a
  obtain ⟨⟨f1c, f2c, f3c, _, _, f6c⟩, _⟩ := hL (Q (Q (Q p))) f3b
  unfold f_X4_readBalloon f_X9_balloonLine
  rw [z_gI1, z_gI1, z_c1, m3, c2, show (10 : Int32) = nI 10 from rfl, z_add]
  simp (disch := omega) only [z_lt, z_le]
  by_cases hn : G 0 3 < 10
  · rw [if_pos hn, if_neg (by omega)]
    unfold f_X9_balloonLine_j27
    obtain ⟨w0, o1, t1⟩ := x_open hL hp ht ea
    rw [o1, z_ob7, if_neg (by decide)]
    rcases x_num hL he f3 t1 kind value code number ea 1 999 with ⟨k1_, lo1, hi1, cr1, s1, n1, d1, u1, t2, mr1⟩ | ⟨ka, v', hka, _, cr, mr⟩
    rotate_left
    · left
      rw [cr, z_ob6, if_pos rfl, mr, z_ob8, if_pos rfl]
      exact ⟨ka, _, _, _, _, _, _, _, _, _, _, _, _, _, _, _, hka, rfl, rfl, (RGm_lo hG0 h0 (fun _ _ => rfl) (fun _ _ => rfl) (fun _ _ => rfl) (fun _ _ => rfl) (fun _ _ => rfl) (fun _ _ => rfl) (fun _ _ => rfl) (fun _ _ => rfl) (fun _ _ => rfl) (fun _ _ => rfl) (fun _ _ => rfl) (fun _ _ => rfl) (fun _ _ => rfl) (fun _ _ => rfl) (fun _ _ => rfl) (fun _ _ => rfl) (fun _ _ => rfl) (fun _ _ => rfl))⟩
    rw [cr1, z_ob6, if_neg (by decide), mr1, z_ob8, if_neg (by decide), z_gIx (i := 10 + G 0 3) (by omega) (by omega), z_cl (n := 10 + G 0 3) (by omega)]
    rcases x_num hL he f3a t2 2 (nI (V (Q p))) code (nI (V (Q p))) ea 0 4 with ⟨k2_, lo2, hi2, cr2, s2, n2, d2, u2, t3, mr2⟩ | ⟨ka, v', hka, _, cr, mr⟩
    rotate_left
    · left
      rw [cr, z_ob6, if_pos rfl, mr, z_ob8, if_pos rfl]
      exact ⟨ka, _, _, _, _, _, _, _, _, _, _, _, _, _, _, _, hka, rfl, rfl, (RGm_lo hG0 h0 (fun _ _ => rfl) (fun _ _ => rfl) (fun _ _ => rfl) (fun _ _ => rfl) (fun _ _ => rfl) (fun _ _ => rfl) (fun _ _ => rfl) (fun _ _ => rfl) (fun _ _ => rfl) (fun _ _ => rfl) (fun _ _ => rfl) (fun _ _ => rfl) (fun _ _ => rfl) (fun k hk => pk_un (by omega)) (fun _ _ => rfl) (fun _ _ => rfl) (fun _ _ => rfl) (fun _ _ => rfl))⟩
    rw [cr2, z_ob6, if_neg (by decide), mr2, z_ob8, if_neg (by decide), z_gIx (i := 10 + G 0 3) (by omega) (by omega)]
    right
    rw [z_gI1, z_gI1, z_c1, m3, nI_1]
    unfold f_X5_addBalloon
    rw [show (10 : Int32) = nI 10 from rfl, if_neg (by rw [z_le (by omega) (by omega)]; omega), z_gIx (by omega) (by omega), z_gIx (by omega) (by omega), nI_1, z_cl (by omega), z_ob3]
    have b1 : V (Q p) ≤ 999 := b_le (k := 999) (by have := f6a k1_; omega) (by omega) hi1
    have a1 : 1 ≤ V (Q p) := b_ge (k := 1) (by omega) (by omega) lo1
    have b2 : V (Q (Q p)) ≤ 4 := b_le (k := 4) (by have := f6b k2_; omega) (by omega) hi2
    refine ⟨(Q (Q (Q p))), _, _, _, _, _, _, _, _, _, _, _, _, _, ?_, f3b, rfl, rfl, t3, (RGm_lo hG0 h0 (fun _ _ => rfl) (fun _ _ => rfl) (fun _ _ => rfl) (fun _ _ => rfl) (fun _ _ => rfl) (fun _ _ => rfl) (fun _ _ => rfl) (fun _ _ => rfl) (fun _ _ => rfl) (fun _ _ => rfl) (fun _ _ => rfl) (fun _ _ => rfl) (fun k hk => pk_un (by omega)) (fun k hk => pk_un (by omega)) (fun k hk => pk_un (by omega)) (fun _ _ => rfl) (fun _ _ => rfl) (fun _ _ => rfl)), _, WF_balloon hG hn ⟨a1, b1⟩ b2, DC_balloon hc, DM_balloon hm, rfl, rfl, rfl, rfl⟩
    have := (hL (Q p) f3).1.2.2.2.2.1 (by omega)
    omega
  · left
    rw [if_neg hn, if_pos (by omega)]
    unfold f_X9_balloonLine_j27 f_X4_fail
    rw [x_shut ht ea, z_ob7, if_pos rfl, z_ob2]
    exact ⟨4, _, _, _, _, _, _, _, _, _, _, _, _, _, _, _, by decide, rfl, rfl, h0⟩
theorem WF_letter {v1 v2 : Nat} (hG : WF G) (hn : G 0 4 < 24) (b1 : 1 ≤ v1 ∧ v1 ≤ 99) (b2 : 1 ≤ v2 ∧ v2 ≤ 9) : WF (gU (gU (gU G 12 (G 0 4) (v1)) 13 (G 0 4) (v2)) 0 4 (G 0 4 + 1)) := by
  obtain ⟨⟨g0, g1, g2, g3, g4, g5, g6, g7⟩, gr, ⟨gna, gn1, gn2, gn3⟩, ⟨gt1, gt2, gt3⟩, gb, gl⟩ := hG
  refine ⟨⟨g0, g1, g2, g3, by show G 0 4 + 1 ≤ 24; omega, g5, g6, g7⟩, gr, ⟨gna, gn1, gn2, gn3⟩, ⟨gt1, gt2, gt3⟩, gb, fun k hk => ?_⟩
  · have hk : k < G 0 4 + 1 := hk
    show 1 ≤ (if k = G 0 4 then v1 else G 12 k) ∧ (if k = G 0 4 then v1 else G 12 k) ≤ 99 ∧ 1 ≤ (if k = G 0 4 then v2 else G 13 k) ∧ (if k = G 0 4 then v2 else G 13 k) ≤ 9
    by_cases e1 : k = G 0 4
    · simp only [if_pos e1]; omega
    · simp only [if_neg e1]; exact gl k (by omega)
theorem DC_letter {v1 v2 : Nat} (hc : DC G regions balloons letters loft start seed count turnCount risk distance comeback capacity pigeons weight priority turnFrom turnTo follow land aimCount aim) : DC (gU (gU (gU G 12 (G 0 4) (v1)) 13 (G 0 4) (v2)) 0 4 (G 0 4 + 1)) regions balloons (nI (G 0 4 + 1)) loft start seed count turnCount risk distance comeback capacity pigeons (upd weight (G 0 4) (nI v1)) (upd priority (G 0 4) (nI v2)) turnFrom turnTo follow land aimCount aim := by
  obtain ⟨⟨⟨c1, c2, c3, c4, c5, c6, c7, c8⟩, cr, cb, cl, ct, cf, cla, cac, cai⟩, cx⟩ := hc
  refine ⟨⟨⟨c1, c2, rfl, c4, c5, c6, c7, c8⟩, cr, cb, fun k hk => ?_, ct, cf, cla, cac, cai⟩, cx⟩
  have hk : k < G 0 4 + 1 := hk
  show upd weight (G 0 4) (nI v1) k = nI (if k = G 0 4 then v1 else G 12 k) ∧ upd priority (G 0 4) (nI v2) k = nI (if k = G 0 4 then v2 else G 13 k)
  by_cases e1 : k = G 0 4
  · simp only [if_pos e1]; rw [e1]; exact ⟨pk_us, pk_us⟩
  · simp only [if_neg e1, pk_un e1]; exact cl k (by omega)
theorem DM_letter {v1 v2 : Nat} (hm : DM G mRegions mRisk mDistance mBack mWinds mNamed mNR mNW mTurns mTF mTT mTW mBalloons mRoom mPigeons mLetters mWeight mPriority) : DM (gU (gU (gU G 12 (G 0 4) (v1)) 13 (G 0 4) (v2)) 0 4 (G 0 4 + 1)) mRegions mRisk mDistance mBack mWinds mNamed mNR mNW mTurns mTF mTT mTW mBalloons mRoom mPigeons (upd mLetters 1 (nI (G 0 4 + 1))) (upd mWeight (24 + G 0 4) (nI v1)) (upd mPriority (24 + G 0 4) (nI v2)) := by
  obtain ⟨⟨m0, m1, m2, m3, m4⟩, mr, mb, ml, mt, mna, mnr⟩ := hm
  refine ⟨⟨m0, m1, m2, m3, pk_us⟩, mr, mb, fun k hk => ?_, mt, mna, mnr⟩
  have hk : k < G 0 4 + 1 := hk
  show upd mWeight (24 + G 0 4) (nI v1) (24 + k) = nI (if k = G 0 4 then v1 else G 12 k) ∧ upd mPriority (24 + G 0 4) (nI v2) (24 + k) = nI (if k = G 0 4 then v2 else G 13 k)
  by_cases e1 : k = G 0 4
  · simp only [if_pos e1]; rw [e1]; exact ⟨pk_us, pk_us⟩
  · have e2 : 24 + k ≠ 24 + G 0 4 := by omega
    simp only [if_neg e1, pk_un e2]; exact ml k (by omega)
theorem l_letter (hN : 3000 < N) (he : e ≤ 900) (hL : LX N e c m S Q K V) (hG0 : WF G0) (hG : WF G) (hc : DC G regions balloons letters loft start seed count turnCount risk distance comeback capacity pigeons weight priority turnFrom turnTo follow land aimCount aim) (hm : DM G mRegions mRisk mDistance mBack mWinds mNamed mNR mNW mTurns mTF mTT mTW mBalloons mRoom mPigeons mLetters mWeight mPriority) (h0 : RGm G0 mLoft mStart mSeed mRegions mRisk mDistance mBack mWinds mNamed mNR mNW mTurns mTF mTT mTW mBalloons mRoom mPigeons mLetters mWeight mPriority) (hp : p ≤ e) (ht : TM S Q K V p st nx tk vv) (kind value code number ea : Int32) :
    (∃ ka sc pc kc vc nu nst nnx ntk nvv x1 x2 x3 y1 y2 y3, ka ≠ 0 ∧ f_X4_readLetter N letters (nI (S p)) (nI e) (nI (Q p)) kind value code c weight priority = some (0, x1, sc, pc, kc, vc, ka, x2, x3) ∧ f_X9_letterLine N (nI e) st nx tk vv 0 ea number mLetters m mWeight mPriority = some (0, nst, nnx, ntk, nvv, ka, sc, nu, y1, y2, y3) ∧ RGm G0 mLoft mStart mSeed mRegions mRisk mDistance mBack mWinds mNamed mNR mNW mTurns mTF mTT mTW mBalloons mRoom mPigeons y1 y2 y3) ∨
    (∃ q sc vc nu nst nnx ntk nvv x1 x2 x3 y1 y2 y3, p < q ∧ q ≤ e ∧ f_X4_readLetter N letters (nI (S p)) (nI e) (nI (Q p)) kind value code c weight priority = some (1, x1, sc, nI q, 2, vc, code, x2, x3) ∧ f_X9_letterLine N (nI e) st nx tk vv 0 ea number mLetters m mWeight mPriority = some (1, nst, nnx, ntk, nvv, 0, ea, nu, y1, y2, y3) ∧ TM S Q K V q nst nnx ntk nvv ∧ RGm G0 mLoft mStart mSeed mRegions mRisk mDistance mBack mWinds mNamed mNR mNW mTurns mTF mTT mTW mBalloons mRoom mPigeons y1 y2 y3 ∧ ∃ G', WF G' ∧ DC G' regions balloons x1 loft start seed count turnCount risk distance comeback capacity pigeons x2 x3 turnFrom turnTo follow land aimCount aim ∧ DM G' mRegions mRisk mDistance mBack mWinds mNamed mNR mNW mTurns mTF mTT mTW mBalloons mRoom mPigeons y1 y2 y3 ∧ G' 0 5 = G 0 5 ∧ G' 0 6 = G 0 6 ∧ G' 0 7 = G 0 7 ∧ G' 0 1 = G 0 1) := by
  obtain ⟨⟨⟨c1, c2, c3, c4, c5, c6, c7, c8⟩, _⟩, _⟩ := id hc
  obtain ⟨⟨m0, m1, m2, m3, m4⟩, _⟩ := id hm
  obtain ⟨⟨g0, g1, g2, g3, g4, g5, g6, g7⟩, _⟩ := id hG
  obtain ⟨⟨f1, f2, f3, f4, f5, f6⟩, _⟩ := hL p hp
  obtain ⟨⟨f1a, f2a, f3a, _, _, f6a⟩, _⟩ := hL (Q p) f3
  obtain ⟨⟨f1b, f2b, f3b, _, _, f6b⟩, _⟩ := hL (Q (Q p)) f3a
  obtain ⟨⟨f1c, f2c, f3c, _, _, f6c⟩, _⟩ := hL (Q (Q (Q p))) f3b
  unfold f_X4_readLetter f_X9_letterLine
  rw [z_gI1, z_gI1, z_c1, m4, c3, show (24 : Int32) = nI 24 from rfl, z_add]
  simp (disch := omega) only [z_lt, z_le]
  by_cases hn : G 0 4 < 24
  · rw [if_pos hn, if_neg (by omega)]
    unfold f_X9_letterLine_j27
    obtain ⟨w0, o1, t1⟩ := x_open hL hp ht ea
    rw [o1, z_ob7, if_neg (by decide)]
    rcases x_num hL he f3 t1 kind value code number ea 1 99 with ⟨k1_, lo1, hi1, cr1, s1, n1, d1, u1, t2, mr1⟩ | ⟨ka, v', hka, _, cr, mr⟩
    rotate_left
    · left
      rw [cr, z_ob6, if_pos rfl, mr, z_ob8, if_pos rfl]
      exact ⟨ka, _, _, _, _, _, _, _, _, _, _, _, _, _, _, _, hka, rfl, rfl, (RGm_lo hG0 h0 (fun _ _ => rfl) (fun _ _ => rfl) (fun _ _ => rfl) (fun _ _ => rfl) (fun _ _ => rfl) (fun _ _ => rfl) (fun _ _ => rfl) (fun _ _ => rfl) (fun _ _ => rfl) (fun _ _ => rfl) (fun _ _ => rfl) (fun _ _ => rfl) (fun _ _ => rfl) (fun _ _ => rfl) (fun _ _ => rfl) (fun _ _ => rfl) (fun _ _ => rfl) (fun _ _ => rfl))⟩
    rw [cr1, z_ob6, if_neg (by decide), mr1, z_ob8, if_neg (by decide), z_gIx (i := 24 + G 0 4) (by omega) (by omega), z_cl (n := 24 + G 0 4) (by omega)]
    rcases x_num hL he f3a t2 2 (nI (V (Q p))) code (nI (V (Q p))) ea 1 9 with ⟨k2_, lo2, hi2, cr2, s2, n2, d2, u2, t3, mr2⟩ | ⟨ka, v', hka, _, cr, mr⟩
    rotate_left
    · left
      rw [cr, z_ob6, if_pos rfl, mr, z_ob8, if_pos rfl]
      exact ⟨ka, _, _, _, _, _, _, _, _, _, _, _, _, _, _, _, hka, rfl, rfl, (RGm_lo hG0 h0 (fun _ _ => rfl) (fun _ _ => rfl) (fun _ _ => rfl) (fun _ _ => rfl) (fun _ _ => rfl) (fun _ _ => rfl) (fun _ _ => rfl) (fun _ _ => rfl) (fun _ _ => rfl) (fun _ _ => rfl) (fun _ _ => rfl) (fun _ _ => rfl) (fun _ _ => rfl) (fun _ _ => rfl) (fun _ _ => rfl) (fun _ _ => rfl) (fun k hk => pk_un (by omega)) (fun _ _ => rfl))⟩
    rw [cr2, z_ob6, if_neg (by decide), mr2, z_ob8, if_neg (by decide), z_gIx (i := 24 + G 0 4) (by omega) (by omega)]
    right
    rw [z_gI1, z_gI1, z_c1, m4, nI_1]
    unfold f_X5_addLetter
    rw [show (24 : Int32) = nI 24 from rfl, if_neg (by rw [z_le (by omega) (by omega)]; omega), z_gIx (by omega) (by omega), z_gIx (by omega) (by omega), nI_1, z_cl (by omega), z_ob3]
    have b1 : V (Q p) ≤ 99 := b_le (k := 99) (by have := f6a k1_; omega) (by omega) hi1
    have a1 : 1 ≤ V (Q p) := b_ge (k := 1) (by omega) (by omega) lo1
    have b2 : V (Q (Q p)) ≤ 9 := b_le (k := 9) (by have := f6b k2_; omega) (by omega) hi2
    have a2 : 1 ≤ V (Q (Q p)) := b_ge (k := 1) (by omega) (by omega) lo2
    refine ⟨(Q (Q (Q p))), _, _, _, _, _, _, _, _, _, _, _, _, _, ?_, f3b, rfl, rfl, t3, (RGm_lo hG0 h0 (fun _ _ => rfl) (fun _ _ => rfl) (fun _ _ => rfl) (fun _ _ => rfl) (fun _ _ => rfl) (fun _ _ => rfl) (fun _ _ => rfl) (fun _ _ => rfl) (fun _ _ => rfl) (fun _ _ => rfl) (fun _ _ => rfl) (fun _ _ => rfl) (fun _ _ => rfl) (fun _ _ => rfl) (fun _ _ => rfl) (fun k hk => pk_un (by omega)) (fun k hk => pk_un (by omega)) (fun k hk => pk_un (by omega))), _, WF_letter hG hn ⟨a1, b1⟩ ⟨a2, b2⟩, DC_letter hc, DM_letter hm, rfl, rfl, rfl, rfl⟩
    have := (hL (Q p) f3).1.2.2.2.2.1 (by omega)
    omega
  · left
    rw [if_neg hn, if_pos (by omega)]
    unfold f_X9_letterLine_j27 f_X4_fail
    rw [x_shut ht ea, z_ob7, if_pos rfl, z_ob2]
    exact ⟨4, _, _, _, _, _, _, _, _, _, _, _, _, _, _, _, by decide, rfl, rfl, h0⟩
end
