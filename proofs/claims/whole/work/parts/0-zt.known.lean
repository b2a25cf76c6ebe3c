abbrev lHt (s : State) (b : Nat) : Prop := ∀ w ∈ lw_tbl, w.before #[Value.ref b] s = true
set_option maxRecDepth 20000 in
theorem i_K {s : State} {b : Nat} (hts : lHt s b) : ∃ (D : va_G) (kc : Nat → ClassId), va_K D vwCl (tyL kc) s := by
  obtain ⟨c0, i0, hK0⟩ := u_known (C := RX0) (T := TX0) (N := 2) (n := 2) hts (fun w hw => (gw_wsX00 w hw).1) (hts (.instantiable RX0 2) (mem_t1 (List.mem_of_getElem? (i := 71) (by decide +kernel))))
  obtain ⟨c1, i1, hK1⟩ := u_known (C := RX1) (T := TX1) (N := 4) (n := 4) hts (fun w hw => (gw_wsX10 w hw).1) (hts (.instantiable RX1 4) (mem_t1 (List.mem_of_getElem? (i := 127) (by decide +kernel))))
  obtain ⟨c2, i2, hK2⟩ := u_known (C := RX2) (T := TX2) (N := 1) (n := 1) hts (fun w hw => (gw_wsX20 w hw).1) (hts (.instantiable RX2 1) (mem_t1 (List.mem_of_getElem? (i := 111) (by decide +kernel))))
  obtain ⟨c3, i3, hK3⟩ := u_known (C := RX3) (T := TX3) (N := 6) (n := 6) hts (fun w hw => (gw_wsX30 w hw).1) (hts (.instantiable RX3 6) (mem_t1 (List.mem_of_getElem? (i := 85) (by decide +kernel))))
  obtain ⟨c4, i4, hK4⟩ := u_known (C := RX4) (T := TX4) (N := 10) (n := 10) hts (fun w hw => (gw_wsX40 w hw).1) (hts (.instantiable RX4 10) (mem_t1 (List.mem_of_getElem? (i := 32) (by decide +kernel))))
  obtain ⟨c5, i5, hK5⟩ := u_known (C := RX5) (T := TX5) (N := 14) (n := 14) hts (fun w hw => (gw_wsX50 w hw).1) (hts (.instantiable RX5 14) (mem_t1 (List.mem_of_getElem? (i := 208) (by decide +kernel))))
  obtain ⟨c6, i6, hK6⟩ := u_known (C := RX6) (T := TX6) (N := 15) (n := 15) hts (fun w hw => (gw_wsX60 w hw).1) (hts (.instantiable RX6 15) (mem_t1 (List.mem_of_getElem? (i := 121) (by decide +kernel))))
  obtain ⟨c7, i7, hK7⟩ := u_known (C := RX7) (T := TX7) (N := 8) (n := 8) hts (fun w hw => (gw_wsX70 w hw).1) (hts (.instantiable RX7 8) (mem_t1 (List.mem_of_getElem? (i := 214) (by decide +kernel))))
  obtain ⟨c8, i8, hK8⟩ := u_known (C := RX8) (T := TX8) (N := 15) (n := 15) hts (fun w hw => (gw_wsX80 w hw).1) (hts (.instantiable RX8 15) (mem_t1 (List.mem_of_getElem? (i := 24) (by decide +kernel))))
  obtain ⟨c9, i9, hK9⟩ := u_known (C := RX9) (T := TX9) (N := 45) (n := 45) hts (fun w hw => (gw_wsX90 w hw).1) (hts (.instantiable RX9 45) (mem_t5 (List.mem_of_getElem? (i := 133) (by decide +kernel))))
  obtain ⟨a0, k0, m0, x0, y0, z0⟩ := Cond.arrayClass_spec (hts (.arrayClass .byte) (mem_t1 (List.mem_of_getElem? (i := 69) (by decide +kernel))))
  obtain ⟨a1, k1, m1, x1, y1, z1⟩ := Cond.arrayClass_spec (hts (.arrayClass .int) (mem_t1 (List.mem_of_getElem? (i := 109) (by decide +kernel))))
  obtain ⟨a2, k2, m2, x2, y2, z2⟩ := Cond.arrayClass_spec (hts (.arrayClass .long) (mem_t1 (List.mem_of_getElem? (i := 83) (by decide +kernel))))
  obtain ⟨a3, k3, m3, x3, y3, z3⟩ := Cond.arrayClass_spec (hts (.arrayClass .boolean) (mem_t2 (List.mem_of_getElem? (i := 9) (by decide +kernel))))
  obtain ⟨m4, a4, k4, w4, -, y4, z4, x4⟩ := Cond.arrayOver_spec (hts (.arrayOver (.object RX6)) (mem_t1 (List.mem_of_getElem? (i := 206) (by decide +kernel))))
  refine ⟨(fun k => [c0, c1, c2, c3, c4, c5, c6, c7, c8, c9].getD k c0, fun k => [i0, i1, i2, i3, i4, i5, i6, i7, i8, i9].getD k i0), fun k => [a0, a1, a2, a3, a4].getD k a0, ?_, ?_⟩
  · intro k q hq
    match k, hq with
    | 0, hq => cases hq; exact hK0
    | 1, hq => cases hq; exact hK1
    | 2, hq => cases hq; exact hK2
    | 3, hq => cases hq; exact hK3
    | 4, hq => cases hq; exact hK4
    | 5, hq => cases hq; exact hK5
    | 6, hq => cases hq; exact hK6
    | 7, hq => cases hq; exact hK7
    | 8, hq => cases hq; exact hK8
    | 9, hq => cases hq; exact hK9
    | k + 10, hq => simp [vwCl] at hq
  · intro k q hq
    match k, hq with
    | 0, hq => cases hq; exact ⟨fun n z => ⟨fun k h => (by cases h), k0, y0, m0, z0⟩, x0⟩
    | 1, hq => cases hq; exact ⟨fun n z => ⟨fun k h => (by cases h), k1, y1, m1, z1⟩, x1⟩
    | 2, hq => cases hq; exact ⟨fun n z => ⟨fun k h => (by cases h), k2, y2, m2, z2⟩, x2⟩
    | 3, hq => cases hq; exact ⟨fun n z => ⟨fun k h => (by cases h), k3, y3, m3, z3⟩, x3⟩
    | 4, hq => cases hq; exact ⟨fun n z => ⟨fun k h => (by cases h), k4, y4, m4, z4⟩, ⟨k4, m4, y4, z4, w4, x4⟩⟩
    | k + 5, hq => simp [tyL] at hq
theorem i_N {s : State} {b : Nat} (hts : lHt s b) : gN s := ⟨va_Nw.of rfl (hts (nst_0) (mem_t3 (List.mem_of_getElem? (i := 220) (by decide +kernel)))), va_Nw.of rfl (hts (nst_1) (mem_t4 (List.mem_of_getElem? (i := 13) (by decide +kernel))))⟩
theorem i_C {s : State} {b : Nat} (hts : lHt s b) : gC s := ⟨va_Nw.of rfl (hts (nct_0) (mem_t1 (List.mem_of_getElem? (i := 33) (by decide +kernel)))), va_Nw.of rfl (hts (nct_1) (mem_t1 (List.mem_of_getElem? (i := 72) (by decide +kernel)))), va_Nw.of rfl (hts (nct_2) (mem_t1 (List.mem_of_getElem? (i := 86) (by decide +kernel)))), va_Nw.of rfl (hts (nct_3) (mem_t1 (List.mem_of_getElem? (i := 112) (by decide +kernel)))), va_Nw.of rfl (hts (nct_4) (mem_t1 (List.mem_of_getElem? (i := 122) (by decide +kernel)))), va_Nw.of rfl (hts (nct_5) (mem_t1 (List.mem_of_getElem? (i := 209) (by decide +kernel)))), va_Nw.of rfl (hts (nct_6) (mem_t1 (List.mem_of_getElem? (i := 215) (by decide +kernel)))), va_Nw.of rfl (hts (nct_7) (mem_t1 (List.mem_of_getElem? (i := 128) (by decide +kernel)))), va_AO.of (hts (.arrayOver (.object RX6)) (mem_t1 (List.mem_of_getElem? (i := 206) (by decide +kernel))))⟩
def nAt : List Cond := flatC (Jvm.Cond.and given_1 narrow_1)
abbrev lHs (s : State) (b : Nat) : Prop := ∀ w ∈ nAt, w.before #[Value.ref b] s = true
def tmS (i : Nat) : Term := .string RX4 ([64, 73, 78, 88, 93, 98, 103, 108].getD i 0)
set_option maxRecDepth 20000 in
theorem i_ex {s : State} {b : Nat} (hs : lHs s b) : ∀ i : Nat, i < 8 → (Cond.exactly (tmS i) "java/lang/String").before #[Value.ref b] s = true := by
  intro i hi
  match i, hi with
  | 0, _ => exact (hs _ (List.mem_of_getElem? (i := 21) (by decide +kernel)))
  | 1, _ => exact (hs _ (List.mem_of_getElem? (i := 31) (by decide +kernel)))
  | 2, _ => exact (hs _ (List.mem_of_getElem? (i := 40) (by decide +kernel)))
  | 3, _ => exact (hs _ (List.mem_of_getElem? (i := 50) (by decide +kernel)))
  | 4, _ => exact (hs _ (List.mem_of_getElem? (i := 64) (by decide +kernel)))
  | 5, _ => exact (hs _ (List.mem_of_getElem? (i := 78) (by decide +kernel)))
  | 6, _ => exact (hs _ (List.mem_of_getElem? (i := 91) (by decide +kernel)))
  | 7, _ => exact (hs _ (List.mem_of_getElem? (i := 106) (by decide +kernel)))
  | i + 8, h => exact absurd h (by omega)
set_option maxRecDepth 20000 in
theorem i_co {s : State} {b : Nat} (hs : lHs s b) : ∀ i : Nat, i < 8 → (Cond.eq (.field (tmS i) "java/lang/String" "coder" "B") (.int 0)).before #[Value.ref b] s = true := by
  intro i hi
  match i, hi with
  | 0, _ => exact (hs _ (List.mem_of_getElem? (i := 22) (by decide +kernel)))
  | 1, _ => exact (hs _ (List.mem_of_getElem? (i := 32) (by decide +kernel)))
  | 2, _ => exact (hs _ (List.mem_of_getElem? (i := 41) (by decide +kernel)))
  | 3, _ => exact (hs _ (List.mem_of_getElem? (i := 51) (by decide +kernel)))
  | 4, _ => exact (hs _ (List.mem_of_getElem? (i := 65) (by decide +kernel)))
  | 5, _ => exact (hs _ (List.mem_of_getElem? (i := 79) (by decide +kernel)))
  | 6, _ => exact (hs _ (List.mem_of_getElem? (i := 92) (by decide +kernel)))
  | 7, _ => exact (hs _ (List.mem_of_getElem? (i := 107) (by decide +kernel)))
  | i + 8, h => exact absurd h (by omega)
set_option maxRecDepth 20000 in
theorem i_ar {s : State} {b : Nat} (hs : lHs s b) : ∀ i : Nat, i < 8 → (Cond.arrayOf (.field (tmS i) "java/lang/String" "value" "[B") .byte).before #[Value.ref b] s = true := by
  intro i hi
  match i, hi with
  | 0, _ => exact (hs _ (List.mem_of_getElem? (i := 23) (by decide +kernel)))
  | 1, _ => exact (hs _ (List.mem_of_getElem? (i := 33) (by decide +kernel)))
  | 2, _ => exact (hs _ (List.mem_of_getElem? (i := 42) (by decide +kernel)))
  | 3, _ => exact (hs _ (List.mem_of_getElem? (i := 52) (by decide +kernel)))
  | 4, _ => exact (hs _ (List.mem_of_getElem? (i := 66) (by decide +kernel)))
  | 5, _ => exact (hs _ (List.mem_of_getElem? (i := 80) (by decide +kernel)))
  | 6, _ => exact (hs _ (List.mem_of_getElem? (i := 93) (by decide +kernel)))
  | 7, _ => exact (hs _ (List.mem_of_getElem? (i := 108) (by decide +kernel)))
  | i + 8, h => exact absurd h (by omega)
set_option maxRecDepth 20000 in
theorem i_le {s : State} {b : Nat} (hs : lHs s b) : ∀ i : Nat, i < 8 → (Cond.eq (.length (.field (tmS i) "java/lang/String" "value" "[B")) (.int (Int32.ofNat (sLen.getD i 0)))).before #[Value.ref b] s = true := by
  intro i hi
  match i, hi with
  | 0, _ => exact (hs _ (List.mem_of_getElem? (i := 24) (by decide +kernel)))
  | 1, _ => exact (hs _ (List.mem_of_getElem? (i := 34) (by decide +kernel)))
  | 2, _ => exact (hs _ (List.mem_of_getElem? (i := 43) (by decide +kernel)))
  | 3, _ => exact (hs _ (List.mem_of_getElem? (i := 53) (by decide +kernel)))
  | 4, _ => exact (hs _ (List.mem_of_getElem? (i := 67) (by decide +kernel)))
  | 5, _ => exact (hs _ (List.mem_of_getElem? (i := 81) (by decide +kernel)))
  | 6, _ => exact (hs _ (List.mem_of_getElem? (i := 94) (by decide +kernel)))
  | 7, _ => exact (hs _ (List.mem_of_getElem? (i := 109) (by decide +kernel)))
  | i + 8, h => exact absurd h (by omega)
set_option maxRecDepth 20000 in
theorem i_el {s : State} {b : Nat} (hs : lHs s b) : ∀ i : Nat, i < 8 → ∀ j : Nat, j < sLen.getD i 0 → (Cond.eq (.elem (.field (tmS i) "java/lang/String" "value" "[B") (.int (Int32.ofNat j))) (.int ((sByt.getD i []).getD j 0))).before #[Value.ref b] s = true := by
  intro i hi j hj
  match i, hi, hj with
  | 0, _, hj =>
    have hj : j < 6 := hj
    match j, hj with
    | 0, _ => exact (hs _ (List.mem_of_getElem? (i := 25) (by decide +kernel)))
    | 1, _ => exact (hs _ (List.mem_of_getElem? (i := 26) (by decide +kernel)))
    | 2, _ => exact (hs _ (List.mem_of_getElem? (i := 27) (by decide +kernel)))
    | 3, _ => exact (hs _ (List.mem_of_getElem? (i := 28) (by decide +kernel)))
    | 4, _ => exact (hs _ (List.mem_of_getElem? (i := 29) (by decide +kernel)))
    | 5, _ => exact (hs _ (List.mem_of_getElem? (i := 30) (by decide +kernel)))
    | j + 6, h => exact absurd h (by omega)
  | 1, _, hj =>
    have hj : j < 4 := hj
    match j, hj with
    | 0, _ => exact (hs _ (List.mem_of_getElem? (i := 35) (by decide +kernel)))
    | 1, _ => exact (hs _ (List.mem_of_getElem? (i := 36) (by decide +kernel)))
    | 2, _ => exact (hs _ (List.mem_of_getElem? (i := 37) (by decide +kernel)))
    | 3, _ => exact (hs _ (List.mem_of_getElem? (i := 38) (by decide +kernel)))
    | j + 4, h => exact absurd h (by omega)
  | 2, _, hj =>
    have hj : j < 4 := hj
    match j, hj with
    | 0, _ => exact (hs _ (List.mem_of_getElem? (i := 44) (by decide +kernel)))
    | 1, _ => exact (hs _ (List.mem_of_getElem? (i := 45) (by decide +kernel)))
    | 2, _ => exact (hs _ (List.mem_of_getElem? (i := 46) (by decide +kernel)))
    | 3, _ => exact (hs _ (List.mem_of_getElem? (i := 47) (by decide +kernel)))
    | j + 4, h => exact absurd h (by omega)
  | 3, _, hj =>
    have hj : j < 7 := hj
    match j, hj with
    | 0, _ => exact (hs _ (List.mem_of_getElem? (i := 54) (by decide +kernel)))
    | 1, _ => exact (hs _ (List.mem_of_getElem? (i := 55) (by decide +kernel)))
    | 2, _ => exact (hs _ (List.mem_of_getElem? (i := 56) (by decide +kernel)))
    | 3, _ => exact (hs _ (List.mem_of_getElem? (i := 57) (by decide +kernel)))
    | 4, _ => exact (hs _ (List.mem_of_getElem? (i := 58) (by decide +kernel)))
    | 5, _ => exact (hs _ (List.mem_of_getElem? (i := 59) (by decide +kernel)))
    | 6, _ => exact (hs _ (List.mem_of_getElem? (i := 60) (by decide +kernel)))
    | j + 7, h => exact absurd h (by omega)
  | 4, _, hj =>
    have hj : j < 6 := hj
    match j, hj with
    | 0, _ => exact (hs _ (List.mem_of_getElem? (i := 68) (by decide +kernel)))
    | 1, _ => exact (hs _ (List.mem_of_getElem? (i := 69) (by decide +kernel)))
    | 2, _ => exact (hs _ (List.mem_of_getElem? (i := 70) (by decide +kernel)))
    | 3, _ => exact (hs _ (List.mem_of_getElem? (i := 71) (by decide +kernel)))
    | 4, _ => exact (hs _ (List.mem_of_getElem? (i := 72) (by decide +kernel)))
    | 5, _ => exact (hs _ (List.mem_of_getElem? (i := 73) (by decide +kernel)))
    | j + 6, h => exact absurd h (by omega)
  | 5, _, hj =>
    have hj : j < 4 := hj
    match j, hj with
    | 0, _ => exact (hs _ (List.mem_of_getElem? (i := 82) (by decide +kernel)))
    | 1, _ => exact (hs _ (List.mem_of_getElem? (i := 83) (by decide +kernel)))
    | 2, _ => exact (hs _ (List.mem_of_getElem? (i := 84) (by decide +kernel)))
    | 3, _ => exact (hs _ (List.mem_of_getElem? (i := 85) (by decide +kernel)))
    | j + 4, h => exact absurd h (by omega)
  | 6, _, hj =>
    have hj : j < 5 := hj
    match j, hj with
    | 0, _ => exact (hs _ (List.mem_of_getElem? (i := 95) (by decide +kernel)))
    | 1, _ => exact (hs _ (List.mem_of_getElem? (i := 96) (by decide +kernel)))
    | 2, _ => exact (hs _ (List.mem_of_getElem? (i := 97) (by decide +kernel)))
    | 3, _ => exact (hs _ (List.mem_of_getElem? (i := 98) (by decide +kernel)))
    | 4, _ => exact (hs _ (List.mem_of_getElem? (i := 99) (by decide +kernel)))
    | j + 5, h => exact absurd h (by omega)
  | 7, _, hj =>
    have hj : j < 4 := hj
    match j, hj with
    | 0, _ => exact (hs _ (List.mem_of_getElem? (i := 110) (by decide +kernel)))
    | 1, _ => exact (hs _ (List.mem_of_getElem? (i := 111) (by decide +kernel)))
    | 2, _ => exact (hs _ (List.mem_of_getElem? (i := 112) (by decide +kernel)))
    | 3, _ => exact (hs _ (List.mem_of_getElem? (i := 113) (by decide +kernel)))
    | j + 4, h => exact absurd h (by omega)
  | i + 8, h, _ => exact absurd h (by omega)
set_option maxRecDepth 20000 in
theorem i_ne {s : State} {b : Nat} (hs : lHs s b) : ∀ i j : Nat, i < j → j < 8 → (Cond.not (Cond.eq (tmS i) (tmS j))).before #[Value.ref b] s = true := by
  intro i j hij hj
  match j, hj, hij with
  | 0, _, hij =>
    match i, hij with
    | i + 0, h => exact absurd h (by omega)
  | 1, _, hij =>
    match i, hij with
    | 0, _ => exact (hs _ (List.mem_of_getElem? (i := 39) (by decide +kernel)))
    | i + 1, h => exact absurd h (by omega)
  | 2, _, hij =>
    match i, hij with
    | 0, _ => exact (hs _ (List.mem_of_getElem? (i := 48) (by decide +kernel)))
    | 1, _ => exact (hs _ (List.mem_of_getElem? (i := 49) (by decide +kernel)))
    | i + 2, h => exact absurd h (by omega)
  | 3, _, hij =>
    match i, hij with
    | 0, _ => exact (hs _ (List.mem_of_getElem? (i := 61) (by decide +kernel)))
    | 1, _ => exact (hs _ (List.mem_of_getElem? (i := 62) (by decide +kernel)))
    | 2, _ => exact (hs _ (List.mem_of_getElem? (i := 63) (by decide +kernel)))
    | i + 3, h => exact absurd h (by omega)
  | 4, _, hij =>
    match i, hij with
    | 0, _ => exact (hs _ (List.mem_of_getElem? (i := 74) (by decide +kernel)))
    | 1, _ => exact (hs _ (List.mem_of_getElem? (i := 75) (by decide +kernel)))
    | 2, _ => exact (hs _ (List.mem_of_getElem? (i := 76) (by decide +kernel)))
    | 3, _ => exact (hs _ (List.mem_of_getElem? (i := 77) (by decide +kernel)))
    | i + 4, h => exact absurd h (by omega)
  | 5, _, hij =>
    match i, hij with
    | 0, _ => exact (hs _ (List.mem_of_getElem? (i := 86) (by decide +kernel)))
    | 1, _ => exact (hs _ (List.mem_of_getElem? (i := 87) (by decide +kernel)))
    | 2, _ => exact (hs _ (List.mem_of_getElem? (i := 88) (by decide +kernel)))
    | 3, _ => exact (hs _ (List.mem_of_getElem? (i := 89) (by decide +kernel)))
    | 4, _ => exact (hs _ (List.mem_of_getElem? (i := 90) (by decide +kernel)))
    | i + 5, h => exact absurd h (by omega)
  | 6, _, hij =>
    match i, hij with
    | 0, _ => exact (hs _ (List.mem_of_getElem? (i := 100) (by decide +kernel)))
    | 1, _ => exact (hs _ (List.mem_of_getElem? (i := 101) (by decide +kernel)))
    | 2, _ => exact (hs _ (List.mem_of_getElem? (i := 102) (by decide +kernel)))
    | 3, _ => exact (hs _ (List.mem_of_getElem? (i := 103) (by decide +kernel)))
    | 4, _ => exact (hs _ (List.mem_of_getElem? (i := 104) (by decide +kernel)))
    | 5, _ => exact (hs _ (List.mem_of_getElem? (i := 105) (by decide +kernel)))
    | i + 6, h => exact absurd h (by omega)
  | 7, _, hij =>
    match i, hij with
    | 0, _ => exact (hs _ (List.mem_of_getElem? (i := 114) (by decide +kernel)))
    | 1, _ => exact (hs _ (List.mem_of_getElem? (i := 115) (by decide +kernel)))
    | 2, _ => exact (hs _ (List.mem_of_getElem? (i := 116) (by decide +kernel)))
    | 3, _ => exact (hs _ (List.mem_of_getElem? (i := 117) (by decide +kernel)))
    | 4, _ => exact (hs _ (List.mem_of_getElem? (i := 118) (by decide +kernel)))
    | 5, _ => exact (hs _ (List.mem_of_getElem? (i := 119) (by decide +kernel)))
    | 6, _ => exact (hs _ (List.mem_of_getElem? (i := 120) (by decide +kernel)))
    | i + 7, h => exact absurd h (by omega)
  | j + 8, h, _ => exact absurd h (by omega)
set_option maxRecDepth 20000 in
theorem i_S {s : State} {b : Nat} (hts : lHt s b) (hs : lHs s b) : ∃ adK adV : Nat → Nat, gS adK adV (lA s) s s.heap := by
  have hA : ∀ a : Nat, a < s.heap.size → ¬ lA s a := fun a h => Nat.not_le.mpr h
  obtain ⟨adK, adV, h1, h2⟩ := vk_Sof (args := #[Value.ref b]) (s := s) (N := 8) (tm := tmS) (len := sLen) (byt := sByt) (A := lA s) (fun i hi => by
    match i, hi with
    | 0, _ => decide
    | 1, _ => decide
    | 2, _ => decide
    | 3, _ => decide
    | 4, _ => decide
    | 5, _ => decide
    | 6, _ => decide
    | 7, _ => decide
    | i + 8, h => exact absurd h (by omega)) (i_ex hs) (i_co hs) (i_ar hs) (i_le hs) (i_el hs) (fun i j hi hj hne => by
    rcases Nat.lt_or_gt_of_ne hne with h | h
    · exact Or.inl (i_ne hs i j h hj)
    · exact Or.inr (i_ne hs j i h hi)) hA
  refine ⟨adK, adV, h1, ?_, ?_, ?_⟩
  · exact va_Zof (hts (.laysStatic "java/lang/String" "COMPACT_STRINGS" "Z") (mem_t2 (List.mem_of_getElem? (i := 203) (by decide +kernel)))) (hts (.initialized "java/lang/String") (mem_t1 (List.mem_of_getElem? (i := 13) (by decide +kernel)))) (va_eqt (hs _ (List.mem_of_getElem? (i := 4) (by decide +kernel)))) hA
  · exact va_Zqof (hts (.laysStatic "jdk/internal/util/Preconditions" "SIOOBE_FORMATTER" "Ljava/util/function/BiFunction;") (mem_t2 (List.mem_of_getElem? (i := 219) (by decide +kernel)))) (hts (.initialized "jdk/internal/util/Preconditions") (mem_t1 (List.mem_of_getElem? (i := 15) (by decide +kernel)))) (hs _ (List.mem_of_getElem? (i := 5) (by decide +kernel))) hA
  · exact ⟨vk_R.of (hts (.stringRef RX4 64 "region") (mem_t2 (List.mem_of_getElem? (i := 189) (by decide +kernel)))) (h2 0 (by omega)),
      vk_R.of (hts (.stringRef RX4 73 "wind") (mem_t3 (List.mem_of_getElem? (i := 18) (by decide +kernel)))) (h2 1 (by omega)),
      vk_R.of (hts (.stringRef RX4 78 "turn") (mem_t3 (List.mem_of_getElem? (i := 43) (by decide +kernel)))) (h2 2 (by omega)),
      vk_R.of (hts (.stringRef RX4 88 "balloon") (mem_t3 (List.mem_of_getElem? (i := 56) (by decide +kernel)))) (h2 3 (by omega)),
      vk_R.of (hts (.stringRef RX4 93 "letter") (mem_t3 (List.mem_of_getElem? (i := 65) (by decide +kernel)))) (h2 4 (by omega)),
      vk_R.of (hts (.stringRef RX4 98 "loft") (mem_t3 (List.mem_of_getElem? (i := 74) (by decide +kernel)))) (h2 5 (by omega)),
      vk_R.of (hts (.stringRef RX4 103 "start") (mem_t3 (List.mem_of_getElem? (i := 79) (by decide +kernel)))) (h2 6 (by omega)),
      vk_R.of (hts (.stringRef RX4 108 "seed") (mem_t3 (List.mem_of_getElem? (i := 84) (by decide +kernel)))) (h2 7 (by omega)),
      vk_R.of (hts (.stringRef RX9 197 "region") (mem_t6 (List.mem_of_getElem? (i := 65) (by decide +kernel)))) (va_eqR (t := tmS 0) (u := .string RX9 197) (hs _ (List.mem_of_getElem? (i := 156) (by decide +kernel))) (h2 0 (by omega))),
      vk_R.of (hts (.stringRef RX9 203 "wind") (mem_t6 (List.mem_of_getElem? (i := 88) (by decide +kernel)))) (va_eqR (t := tmS 1) (u := .string RX9 203) (hs _ (List.mem_of_getElem? (i := 174) (by decide +kernel))) (h2 1 (by omega))),
      vk_R.of (hts (.stringRef RX9 208 "turn") (mem_t6 (List.mem_of_getElem? (i := 96) (by decide +kernel)))) (va_eqR (t := tmS 2) (u := .string RX9 208) (hs _ (List.mem_of_getElem? (i := 193) (by decide +kernel))) (h2 2 (by omega))),
      vk_R.of (hts (.stringRef RX9 213 "balloon") (mem_t6 (List.mem_of_getElem? (i := 101) (by decide +kernel)))) (va_eqR (t := tmS 3) (u := .string RX9 213) (hs _ (List.mem_of_getElem? (i := 216) (by decide +kernel))) (h2 3 (by omega))),
      vk_R.of (hts (.stringRef RX9 218 "letter") (mem_t6 (List.mem_of_getElem? (i := 106) (by decide +kernel)))) (va_eqR (t := tmS 4) (u := .string RX9 218) (hs _ (List.mem_of_getElem? (i := 239) (by decide +kernel))) (h2 4 (by omega))),
      vk_R.of (hts (.stringRef RX9 176 "loft") (mem_t6 (List.mem_of_getElem? (i := 115) (by decide +kernel)))) (va_eqR (t := tmS 5) (u := .string RX9 176) (hs _ (List.mem_of_getElem? (i := 261) (by decide +kernel))) (h2 5 (by omega))),
      vk_R.of (hts (.stringRef RX9 189 "start") (mem_t6 (List.mem_of_getElem? (i := 120) (by decide +kernel)))) (va_eqR (t := tmS 6) (u := .string RX9 189) (hs _ (List.mem_of_getElem? (i := 285) (by decide +kernel))) (h2 6 (by omega))),
      vk_R.of (hts (.stringRef RX9 193 "seed") (mem_t6 (List.mem_of_getElem? (i := 121) (by decide +kernel)))) (va_eqR (t := tmS 7) (u := .string RX9 193) (hs _ (List.mem_of_getElem? (i := 309) (by decide +kernel))) (h2 7 (by omega)))⟩
set_option maxRecDepth 20000 in
theorem i_X {s : State} {b : Nat} (hts : lHt s b) (hs : lHs s b) : ∃ sa : Nat, gX sa (lA s) s s.heap := by
  have hA : ∀ a : Nat, a < s.heap.size → ¬ lA s a := fun a h => Nat.not_le.mpr h
  obtain ⟨sa, c, cA, kA, q1, -⟩ := Cond.exactly_spec (args := #[Value.ref b]) (first := s) (o := none) (s := s) (idx := []) (t := .string RX8 278) (cls := "java/lang/String") (hs _ (List.mem_of_getElem? (i := 121) (by decide +kernel)))
  refine ⟨sa, vk_R.of (hts (.stringRef RX8 278 "no such event") (mem_t5 (List.mem_of_getElem? (i := 88) (by decide +kernel)))) q1, ?_, ?_, ?_, ?_, ?_, ?_⟩
  · exact vx_Zqof (hts (.laysStatic Bundle.tN "UNASSIGNED_STACK" Bundle.steD) (mem_t5 (List.mem_of_getElem? (i := 76) (by decide +kernel)))) (hts (.initialized Bundle.tN) (mem_t1 (List.mem_of_getElem? (i := 19) (by decide +kernel)))) (hs _ (List.mem_of_getElem? (i := 9) (by decide +kernel))) hA
  · exact vx_Zqof (hts (.laysStatic Bundle.tN "SUPPRESSED_SENTINEL" Bundle.listD) (mem_t5 (List.mem_of_getElem? (i := 78) (by decide +kernel)))) (hts (.initialized Bundle.tN) (mem_t1 (List.mem_of_getElem? (i := 19) (by decide +kernel)))) (hs _ (List.mem_of_getElem? (i := 10) (by decide +kernel))) hA
  · exact va_Nw.of rfl (hts (.declares (Bundle.initS "java/lang/RuntimeException")) (mem_t5 (List.mem_of_getElem? (i := 53) (by decide +kernel))))
  · exact va_Nw.of rfl (hts (.declares (Bundle.initS "java/lang/Exception")) (mem_t5 (List.mem_of_getElem? (i := 55) (by decide +kernel))))
  · exact va_Nw.of rfl (hts (.declares (Bundle.initS Bundle.tN)) (mem_t5 (List.mem_of_getElem? (i := 57) (by decide +kernel))))
  · exact va_Nw.of rfl (hts (.castable xE xE) (mem_t5 (List.mem_of_getElem? (i := 51) (by decide +kernel))))
