set_option maxHeartbeats 4000000 in
set_option maxRecDepth 100000 in
theorem c_X11_oldestTable (l : Launch) (D : gD) (H0 : gB) (S : Mem) (kc ns : Nat) (h0 mt : Nat) {u : Nat} {tl : Int} {rho : Nat × Nat} (hI : CI x0 u tl rho S) (hr9 : 8 < rho.2) (kh0 : mK S h0 = 12) (hm : mt ≤ 8) (hT1 : ∀ t, mR S 1103 h0 = some t → ∀ i, i < mt → aR S t i ≠ none) (hT2 : mt < 8 → (mI S 1111 h0).toInt = mt) : Met l yX11_oldestTable (wsU yX11_oldestTable cX11_oldestTable 2 (some (.object "ClickBench$Likeness"))) ({ frames := 2, cells := 3, slots := 3665, locals := 41 } : Room) (mP D H0 S kc ns [.ref h0]) (mQ D H0 gR (fun r S1 k1 n1 => ∃ m1, mt ≤ m1 ∧ m1 ≤ 8 ∧ k1 ≤ kc + 3 * (m1 - mt) ∧ n1 ≤ ns + 3665 * (m1 - mt) ∧ mX S S1 ∧ CI x0 u tl (rho.1, m1) S1 ∧ ∃ q, r = some q ∧ mK S1 q = 3)) 3 3665 (mF H0) := by
  refine r_met (own := RX11) (by decide +kernel) rfl (Nat.le_of_ble_eq_true rfl) ?_
  intro p e s m args below meth c C hr hlk hnm H ls hl hM
  obtain ⟨hx, hb, hml, hown, hts, -, -⟩ := id C
  have hl : lv_has ls 2 [(0, .ref h0)] := hl
  have hI0 := hI
  have hX : mX S S := mX.rf
  have t_0 : (0 : Int32).toInt = 0 := by decide
  have t_1 : (1 : Int32).toInt = 1 := by decide
  have t_8 : (8 : Int32).toInt = 8 := by decide
  have kh0a := kh0
  refine lv_aload_n hx hb dX11_oldestTable_0 rfl (lv_at hl 0 rfl) ?_
  refine r_get (ci := 11) (k := 11) (v := .int (mI S 1111 h0)) C hM kh0 f_X11_75 rfl dX11_oldestTable_1 ?_
  refine lv_topi (fun xv1 exv1 => ?_)
  have fxv1 := NI.g1111 hI.2 kh0 exv1
  refine lv_istore_n (lv' := [(1, .int xv1), (0, .ref h0)]) hx hb dX11_oldestTable_4 rfl hl (by decide) rfl (fun ls hl => ?_)
  refine lv_aload_n hx hb dX11_oldestTable_5 rfl (lv_at hl 1 rfl) ?_
  refine lv_iload_n hx hb dX11_oldestTable_6 rfl (lv_at hl 0 rfl) ?_
  refine lv_iconst (v := 1) hx hb dX11_oldestTable_7 (by decide) ?_
  refine lv_iadd hx hb dX11_oldestTable_8 ?_
  refine lv_topi (fun xv2 exv2 => ?_)
  try (have txv2 := addI (a := xv1) (b := 1) (by omega) (by omega); rw [← exv2] at txv2)
  refine lv_bipush (v := 8) hx hb dX11_oldestTable_9 (by decide) ?_
  refine lv_icmp_ge (tgt := 20) hx hb dX11_oldestTable_11 (by decide) (fun cv3 => ?_) (fun cv3 => ?_)
  · have tcv3 := leT cv3
    refine lv_iconst (v := 0) hx hb dX11_oldestTable_20 (by decide) ?_
    refine r_put C hM kh0 f_X11_75 (fun r h => by cases h; rfl) rfl rfl (mPut.I (ci := 11) (k := 11) rfl) dX11_oldestTable_21 (fun H locs hM => ?_)
    have hM : mH D H0 (pI S 1111 h0 0) kc ns H locs := hM
    have hI := CI.p1111 (a := h0) (v := 0) hI ⟨by omega, by omega⟩
    have hO : mI (pI S 1111 h0 0) 1111 h0 = 0 := up2_eq
    have hOm : mt + 1 < 8 → (mI (pI S 1111 h0 0) 1111 h0).toInt = ((mt + 1 : Nat) : Int) := fun h1 => by rw [hO]; have h2 := hT2 (by omega); rw [← exv1] at h2; omega
    have hcl := clI (x := xv1) (by omega)
    refine lv_aload_n hx hb dX11_oldestTable_24 rfl (lv_at hl 1 rfl) ?_
    obtain ⟨qv4, eqv4, kqv4, nqv4⟩ := TI.nn (hx := (by simp [xl, x0])) hI.1 (ci := 11) (k := 3) kh0
    refine r_get (ci := 11) (k := 3) (v := .ref qv4) C hM kh0 f_X11_33 (congrArg va_rf eqv4) dX11_oldestTable_25 ?_
    have eT := eqv4
    have kT := kqv4
    have hTt := hT1 _ eqv4
    refine lv_iload_n hx hb dX11_oldestTable_28 rfl (lv_at hl 0 rfl) ?_
    refine r_aald (t := 2) C hM kqv4 rfl (by decide) (inI (by omega) (by rw [nqv4 (by decide)]; show _ < (8 : Int); omega)) dX11_oldestTable_29 ?_
    obtain ⟨rv5, erv5, krv5⟩ : ∃ r : Option Nat, aR (pI S 1111 h0 0) qv4 xv1.toNatClampNeg = r ∧ ∀ q, r = some q → mK (pI S 1111 h0 0) q = 3 := ⟨_, rfl, TI.arr hI.1 (t := 2) kqv4⟩
    refine W.eq (g2 := F0 m 30 ls [va_rf rv5]) (by rw [← erv5]) ?_
    have eS := erv5
    cases rv5 with
    | none =>
      refine lv_ifnonnullN hx hb dX11_oldestTable_30 ?_
      have hm8 : mt < 8 := by rcases Nat.lt_or_ge mt 8 with h | h; exact h; exact absurd eS (hTt _ (by omega))
      refine lv_aload_n hx hb dX11_oldestTable_33 rfl (lv_at hl 1 rfl) ?_
      refine r_get (ci := 11) (k := 3) (v := .ref qv4) C hM kh0 f_X11_33 (congrArg va_rf (eqv4)) dX11_oldestTable_34 ?_
      refine lv_iload_n hx hb dX11_oldestTable_37 rfl (lv_at hl 0 rfl) ?_
      refine r_new (ci := 2) C hM rfl k_X11_31 in_X2 ini_X2 (by decide) (by decide) dX11_oldestTable_38 (fun qv7 H zqv7 hM => ?_)
      have hM : mH D H0 (nO (pI S 1111 h0 0) qv7 2) (kc + 1) (ns + 5) H locs := hM
      have kh0 : mK (nO (pI S 1111 h0 0) qv7 2) h0 = 12 := (mX.O (S := (pI S 1111 h0 0)) (a := qv7) (ci := 2) zqv7).k kh0
      have kqv4 : mK (nO (pI S 1111 h0 0) qv7 2) qv4 = 27 := (mX.O (S := (pI S 1111 h0 0)) (a := qv7) (ci := 2) zqv7).k kqv4
      have kqv7 : mK (nO (pI S 1111 h0 0) qv7 2) qv7 = 3 := kO
      have hX := hX.trans (mX.O (ci := 2) zqv7)
      have hI := CI.newO (ci := 2) hI zqv7 (by decide) (by decide)
      have hI : CI (xl x0 qv7 [200, 201, 202]) u tl rho (nO (pI S 1111 h0 0) qv7 2) := CI.todo (ci := 2) hI kqv7 (by decide)
      have hh9 : h0 ≠ qv7 := ne9 zqv7 kh0a
      have kTn := kqv4
      refine lv_dup hx hb dX11_oldestTable_41 rfl ?_
      refine lv_aload_n hx hb dX11_oldestTable_42 rfl (lv_at hl 1 rfl) ?_
      obtain ⟨qv8, eqv8, kqv8, nqv8⟩ := TI.nn (hx := (by simp [xl, x0])) hI.1 (ci := 11) (k := 4) kh0
      refine r_get (ci := 11) (k := 4) (v := .ref qv8) C hM kh0 f_X11_37 (congrArg va_rf eqv8) dX11_oldestTable_43 ?_
      refine r_IN (As := [.ref qv8]) (rest := [.ref qv7, .int xv1, .ref qv4]) C hM (c_X2_init l D H0 (nO (pI S 1111 h0 0) qv7 2) (kc + 1) (ns + 5) qv7 qv8 hI kqv7 kqv8 nqv8) i_X2_init m_X11_292 rfl hl.1 rfl (Nat.le_of_ble_eq_true rfl) ⟨by decide, by decide⟩ ⟨by decide, by decide⟩ dX11_oldestTable_46 (fun uv12 Sv9 kv10 nv11 H locs pv13 hM => ?_)
      obtain ⟨rfl, rfl, hx9, hI, hn9, ha9, hm9⟩ := pv13
      have nqv4 : 8 ≠ 0 → mN Sv9 qv4 = 8 := fun h => (hn9 qv4 (by rw [kqv4]; decide)).trans (nqv4 h)
      have kh0 : mK Sv9 h0 = 12 := (hx9).k kh0
      have kqv7 : mK Sv9 qv7 = 3 := (hx9).k kqv7
      have kqv4 : mK Sv9 qv4 = 27 := (hx9).k kqv4
      have hX := hX.trans hx9
      refine W.eq (g2 := F0 m 49 ls [.ref qv7, .int xv1, .ref qv4]) rfl ?_
      refine r_aast (t := 2) (ci := 2) (o := (some qv7)) C hM kqv4 (by decide) rfl rfl (fun q h => by cases h; exact kqv7) (inI (by omega) (by rw [nqv4 (by decide)]; show _ < (8 : Int); omega)) dX11_oldestTable_49 (fun H locs hM => ?_)
      have hM : mH D H0 (qR Sv9 qv4 xv1.toNatClampNeg (some qv7)) ((kc + 1) + 2) ((ns + 5) + 3660) H locs := hM
      have hI := CI.putA (i := xv1.toNatClampNeg) (o := (some qv7)) hI kqv4 (fun q h => by cases h; exact kqv7)
      refine lv_aload_n hx hb dX11_oldestTable_50 rfl (lv_at hl 1 rfl) ?_
      obtain ⟨qv14, eqv14, kqv14, nqv14⟩ := TI.nn (hx := (by simp [xl, x0])) hI.1 (ci := 11) (k := 3) kh0
      refine r_get (ci := 11) (k := 3) (v := .ref qv14) C hM kh0 f_X11_33 (congrArg va_rf eqv14) dX11_oldestTable_51 ?_
      try (have e51 := Option.some.inj (eqv14.symm.trans ((hm9 1103 h0 hh9).2.trans ((cl2_ne hh9).trans eT))))
      refine lv_iload_n hx hb dX11_oldestTable_54 rfl (lv_at hl 0 rfl) ?_
      refine r_aald (t := 2) C hM kqv14 rfl (by decide) (inI (by omega) (by rw [nqv14 (by decide)]; show _ < (8 : Int); omega)) dX11_oldestTable_55 ?_
      obtain ⟨rv15, erv15, krv15⟩ : ∃ r : Option Nat, aR (qR Sv9 qv4 xv1.toNatClampNeg (some qv7)) qv14 xv1.toNatClampNeg = r ∧ ∀ q, r = some q → mK (qR Sv9 qv4 xv1.toNatClampNeg (some qv7)) q = 3 := ⟨_, rfl, TI.arr hI.1 (t := 2) kqv14⟩
      refine W.eq (g2 := F0 m 56 ls [va_rf rv15]) (by rw [← erv15]) ?_
      refine W.widen (k := 3) (n := 3665) (by first | decide | omega) (by first | decide | omega) ?_
      exact r_retR (v := rv15) C hr hlk hM (by first | (obtain ⟨m1, a1, a2, a3, a4, a5⟩ := tab1 (a := h0) hI kh0 eT hm hTt (j := xv1.toNatClampNeg) (fun h => by have := hT2 h; rw [← exv1] at this; omega) (by rw [eS]; simp) hOm; exact ⟨m1, a1, a2, by omega, by omega, hX, a5, _, erv15.symm.trans eS, krv15 _ (erv15.symm.trans eS)⟩) | (obtain ⟨m1, a1, a2, a3, a4, a5⟩ := tab1 (a := h0) (m := mt) hI kh0 ((hm9 1103 h0 hh9).2.trans ((cl2_ne hh9).trans eT)) hm (fun i hi => up2S (fun z => hTt i hi ((ha9 _ i (by rw [kTn]; decide)).symm.trans z))) (j := xv1.toNatClampNeg) (fun h => by have := hT2 h; rw [← exv1] at this; omega) up2T (fun h => (congrArg Int32.toInt ((hm9 1111 h0 hh9).1.trans (cl2_ne hh9))).trans (hOm h)); have e9 := erv15; rw [e51] at e9; exact ⟨m1, a1, a2, by omega, by omega, hX, a5, _, e9.symm.trans up2_eq, krv15 _ (e9.symm.trans up2_eq)⟩)) dX11_oldestTable_56
    | some qv6 =>
      have kqv6 : mK _ qv6 = 3 := krv5 qv6 rfl
      refine lv_ifnonnull (tgt := 50) hx hb dX11_oldestTable_30 (by decide) ?_
      refine lv_aload_n hx hb dX11_oldestTable_50 rfl (lv_at hl 1 rfl) ?_
      refine r_get (ci := 11) (k := 3) (v := .ref qv4) C hM kh0 f_X11_33 (congrArg va_rf (eqv4)) dX11_oldestTable_51 ?_
      try (have e51 := Option.some.inj (eqv4.symm.trans ((hm9 1103 h0 hh9).2.trans ((cl2_ne hh9).trans eT))))
      refine lv_iload_n hx hb dX11_oldestTable_54 rfl (lv_at hl 0 rfl) ?_
      refine r_aald (t := 2) C hM kqv4 rfl (by decide) (inI (by omega) (by rw [nqv4 (by decide)]; show _ < (8 : Int); omega)) dX11_oldestTable_55 ?_
      obtain ⟨rv16, erv16, krv16⟩ : ∃ r : Option Nat, aR (pI S 1111 h0 0) qv4 xv1.toNatClampNeg = r ∧ ∀ q, r = some q → mK (pI S 1111 h0 0) q = 3 := ⟨_, rfl, TI.arr hI.1 (t := 2) kqv4⟩
      refine W.eq (g2 := F0 m 56 ls [va_rf rv16]) (by rw [← erv16]) ?_
      refine W.widen (k := 3) (n := 3665) (by first | decide | omega) (by first | decide | omega) ?_
      exact r_retR (v := rv16) C hr hlk hM (by first | (obtain ⟨m1, a1, a2, a3, a4, a5⟩ := tab1 (a := h0) hI kh0 eT hm hTt (j := xv1.toNatClampNeg) (fun h => by have := hT2 h; rw [← exv1] at this; omega) (by rw [eS]; simp) hOm; exact ⟨m1, a1, a2, by omega, by omega, hX, a5, _, erv16.symm.trans eS, krv16 _ (erv16.symm.trans eS)⟩) | (obtain ⟨m1, a1, a2, a3, a4, a5⟩ := tab1 (a := h0) (m := mt) hI kh0 ((hm9 1103 h0 hh9).2.trans ((cl2_ne hh9).trans eT)) hm (fun i hi => up2S (fun z => hTt i hi ((ha9 _ i (by rw [kTn]; decide)).symm.trans z))) (j := xv1.toNatClampNeg) (fun h => by have := hT2 h; rw [← exv1] at this; omega) up2T (fun h => (congrArg Int32.toInt ((hm9 1111 h0 hh9).1.trans (cl2_ne hh9))).trans (hOm h)); have e9 := erv16; rw [e51] at e9; exact ⟨m1, a1, a2, by omega, by omega, hX, a5, _, e9.symm.trans up2_eq, krv16 _ (e9.symm.trans up2_eq)⟩)) dX11_oldestTable_56
  · have tcv3 := leF cv3
    refine lv_iload_n hx hb dX11_oldestTable_14 rfl (lv_at hl 0 rfl) ?_
    refine lv_iconst (v := 1) hx hb dX11_oldestTable_15 (by decide) ?_
    refine lv_iadd hx hb dX11_oldestTable_16 ?_
    refine lv_topi (fun xv17 exv17 => ?_)
    try (have txv17 := addI (a := xv1) (b := 1) (by omega) (by omega); rw [← exv17] at txv17)
    refine lv_goto (tgt := 21) hx hb dX11_oldestTable_17 (by decide) ?_
    refine r_put C hM kh0 f_X11_75 (fun r h => by cases h; rfl) rfl rfl (mPut.I (ci := 11) (k := 11) rfl) dX11_oldestTable_21 (fun H locs hM => ?_)
    have hM : mH D H0 (pI S 1111 h0 xv17) kc ns H locs := hM
    have hI := CI.p1111 (a := h0) (v := xv17) hI ⟨by omega, by omega⟩
    have hO : mI (pI S 1111 h0 xv17) 1111 h0 = xv17 := up2_eq
    have hOm : mt + 1 < 8 → (mI (pI S 1111 h0 xv17) 1111 h0).toInt = ((mt + 1 : Nat) : Int) := fun h1 => by rw [hO]; have h2 := hT2 (by omega); rw [← exv1] at h2; omega
    have hcl := clI (x := xv1) (by omega)
    refine lv_aload_n hx hb dX11_oldestTable_24 rfl (lv_at hl 1 rfl) ?_
    obtain ⟨qv18, eqv18, kqv18, nqv18⟩ := TI.nn (hx := (by simp [xl, x0])) hI.1 (ci := 11) (k := 3) kh0
    refine r_get (ci := 11) (k := 3) (v := .ref qv18) C hM kh0 f_X11_33 (congrArg va_rf eqv18) dX11_oldestTable_25 ?_
    have eT := eqv18
    have kT := kqv18
    have hTt := hT1 _ eqv18
    refine lv_iload_n hx hb dX11_oldestTable_28 rfl (lv_at hl 0 rfl) ?_
    refine r_aald (t := 2) C hM kqv18 rfl (by decide) (inI (by omega) (by rw [nqv18 (by decide)]; show _ < (8 : Int); omega)) dX11_oldestTable_29 ?_
    obtain ⟨rv19, erv19, krv19⟩ : ∃ r : Option Nat, aR (pI S 1111 h0 xv17) qv18 xv1.toNatClampNeg = r ∧ ∀ q, r = some q → mK (pI S 1111 h0 xv17) q = 3 := ⟨_, rfl, TI.arr hI.1 (t := 2) kqv18⟩
    refine W.eq (g2 := F0 m 30 ls [va_rf rv19]) (by rw [← erv19]) ?_
    have eS := erv19
    cases rv19 with
    | none =>
      refine lv_ifnonnullN hx hb dX11_oldestTable_30 ?_
      have hm8 : mt < 8 := by rcases Nat.lt_or_ge mt 8 with h | h; exact h; exact absurd eS (hTt _ (by omega))
      refine lv_aload_n hx hb dX11_oldestTable_33 rfl (lv_at hl 1 rfl) ?_
      refine r_get (ci := 11) (k := 3) (v := .ref qv18) C hM kh0 f_X11_33 (congrArg va_rf (eqv18)) dX11_oldestTable_34 ?_
      refine lv_iload_n hx hb dX11_oldestTable_37 rfl (lv_at hl 0 rfl) ?_
      refine r_new (ci := 2) C hM rfl k_X11_31 in_X2 ini_X2 (by decide) (by decide) dX11_oldestTable_38 (fun qv21 H zqv21 hM => ?_)
      have hM : mH D H0 (nO (pI S 1111 h0 xv17) qv21 2) (kc + 1) (ns + 5) H locs := hM
      have kh0 : mK (nO (pI S 1111 h0 xv17) qv21 2) h0 = 12 := (mX.O (S := (pI S 1111 h0 xv17)) (a := qv21) (ci := 2) zqv21).k kh0
      have kqv18 : mK (nO (pI S 1111 h0 xv17) qv21 2) qv18 = 27 := (mX.O (S := (pI S 1111 h0 xv17)) (a := qv21) (ci := 2) zqv21).k kqv18
      have kqv21 : mK (nO (pI S 1111 h0 xv17) qv21 2) qv21 = 3 := kO
      have hX := hX.trans (mX.O (ci := 2) zqv21)
      have hI := CI.newO (ci := 2) hI zqv21 (by decide) (by decide)
      have hI : CI (xl x0 qv21 [200, 201, 202]) u tl rho (nO (pI S 1111 h0 xv17) qv21 2) := CI.todo (ci := 2) hI kqv21 (by decide)
      have hh9 : h0 ≠ qv21 := ne9 zqv21 kh0a
      have kTn := kqv18
      refine lv_dup hx hb dX11_oldestTable_41 rfl ?_
      refine lv_aload_n hx hb dX11_oldestTable_42 rfl (lv_at hl 1 rfl) ?_
      obtain ⟨qv22, eqv22, kqv22, nqv22⟩ := TI.nn (hx := (by simp [xl, x0])) hI.1 (ci := 11) (k := 4) kh0
      refine r_get (ci := 11) (k := 4) (v := .ref qv22) C hM kh0 f_X11_37 (congrArg va_rf eqv22) dX11_oldestTable_43 ?_
      refine r_IN (As := [.ref qv22]) (rest := [.ref qv21, .int xv1, .ref qv18]) C hM (c_X2_init l D H0 (nO (pI S 1111 h0 xv17) qv21 2) (kc + 1) (ns + 5) qv21 qv22 hI kqv21 kqv22 nqv22) i_X2_init m_X11_292 rfl hl.1 rfl (Nat.le_of_ble_eq_true rfl) ⟨by decide, by decide⟩ ⟨by decide, by decide⟩ dX11_oldestTable_46 (fun uv26 Sv23 kv24 nv25 H locs pv27 hM => ?_)
      obtain ⟨rfl, rfl, hx9, hI, hn9, ha9, hm9⟩ := pv27
      have nqv18 : 8 ≠ 0 → mN Sv23 qv18 = 8 := fun h => (hn9 qv18 (by rw [kqv18]; decide)).trans (nqv18 h)
      have kh0 : mK Sv23 h0 = 12 := (hx9).k kh0
      have kqv21 : mK Sv23 qv21 = 3 := (hx9).k kqv21
      have kqv18 : mK Sv23 qv18 = 27 := (hx9).k kqv18
      have hX := hX.trans hx9
      refine W.eq (g2 := F0 m 49 ls [.ref qv21, .int xv1, .ref qv18]) rfl ?_
      refine r_aast (t := 2) (ci := 2) (o := (some qv21)) C hM kqv18 (by decide) rfl rfl (fun q h => by cases h; exact kqv21) (inI (by omega) (by rw [nqv18 (by decide)]; show _ < (8 : Int); omega)) dX11_oldestTable_49 (fun H locs hM => ?_)
      have hM : mH D H0 (qR Sv23 qv18 xv1.toNatClampNeg (some qv21)) ((kc + 1) + 2) ((ns + 5) + 3660) H locs := hM
      have hI := CI.putA (i := xv1.toNatClampNeg) (o := (some qv21)) hI kqv18 (fun q h => by cases h; exact kqv21)
      refine lv_aload_n hx hb dX11_oldestTable_50 rfl (lv_at hl 1 rfl) ?_
      obtain ⟨qv28, eqv28, kqv28, nqv28⟩ := TI.nn (hx := (by simp [xl, x0])) hI.1 (ci := 11) (k := 3) kh0
      refine r_get (ci := 11) (k := 3) (v := .ref qv28) C hM kh0 f_X11_33 (congrArg va_rf eqv28) dX11_oldestTable_51 ?_
      try (have e51 := Option.some.inj (eqv28.symm.trans ((hm9 1103 h0 hh9).2.trans ((cl2_ne hh9).trans eT))))
      refine lv_iload_n hx hb dX11_oldestTable_54 rfl (lv_at hl 0 rfl) ?_
      refine r_aald (t := 2) C hM kqv28 rfl (by decide) (inI (by omega) (by rw [nqv28 (by decide)]; show _ < (8 : Int); omega)) dX11_oldestTable_55 ?_
      obtain ⟨rv29, erv29, krv29⟩ : ∃ r : Option Nat, aR (qR Sv23 qv18 xv1.toNatClampNeg (some qv21)) qv28 xv1.toNatClampNeg = r ∧ ∀ q, r = some q → mK (qR Sv23 qv18 xv1.toNatClampNeg (some qv21)) q = 3 := ⟨_, rfl, TI.arr hI.1 (t := 2) kqv28⟩
      refine W.eq (g2 := F0 m 56 ls [va_rf rv29]) (by rw [← erv29]) ?_
      refine W.widen (k := 3) (n := 3665) (by first | decide | omega) (by first | decide | omega) ?_
      exact r_retR (v := rv29) C hr hlk hM (by first | (obtain ⟨m1, a1, a2, a3, a4, a5⟩ := tab1 (a := h0) hI kh0 eT hm hTt (j := xv1.toNatClampNeg) (fun h => by have := hT2 h; rw [← exv1] at this; omega) (by rw [eS]; simp) hOm; exact ⟨m1, a1, a2, by omega, by omega, hX, a5, _, erv29.symm.trans eS, krv29 _ (erv29.symm.trans eS)⟩) | (obtain ⟨m1, a1, a2, a3, a4, a5⟩ := tab1 (a := h0) (m := mt) hI kh0 ((hm9 1103 h0 hh9).2.trans ((cl2_ne hh9).trans eT)) hm (fun i hi => up2S (fun z => hTt i hi ((ha9 _ i (by rw [kTn]; decide)).symm.trans z))) (j := xv1.toNatClampNeg) (fun h => by have := hT2 h; rw [← exv1] at this; omega) up2T (fun h => (congrArg Int32.toInt ((hm9 1111 h0 hh9).1.trans (cl2_ne hh9))).trans (hOm h)); have e9 := erv29; rw [e51] at e9; exact ⟨m1, a1, a2, by omega, by omega, hX, a5, _, e9.symm.trans up2_eq, krv29 _ (e9.symm.trans up2_eq)⟩)) dX11_oldestTable_56
    | some qv20 =>
      have kqv20 : mK _ qv20 = 3 := krv19 qv20 rfl
      refine lv_ifnonnull (tgt := 50) hx hb dX11_oldestTable_30 (by decide) ?_
      refine lv_aload_n hx hb dX11_oldestTable_50 rfl (lv_at hl 1 rfl) ?_
      refine r_get (ci := 11) (k := 3) (v := .ref qv18) C hM kh0 f_X11_33 (congrArg va_rf (eqv18)) dX11_oldestTable_51 ?_
      try (have e51 := Option.some.inj (eqv18.symm.trans ((hm9 1103 h0 hh9).2.trans ((cl2_ne hh9).trans eT))))
      refine lv_iload_n hx hb dX11_oldestTable_54 rfl (lv_at hl 0 rfl) ?_
      refine r_aald (t := 2) C hM kqv18 rfl (by decide) (inI (by omega) (by rw [nqv18 (by decide)]; show _ < (8 : Int); omega)) dX11_oldestTable_55 ?_
      obtain ⟨rv30, erv30, krv30⟩ : ∃ r : Option Nat, aR (pI S 1111 h0 xv17) qv18 xv1.toNatClampNeg = r ∧ ∀ q, r = some q → mK (pI S 1111 h0 xv17) q = 3 := ⟨_, rfl, TI.arr hI.1 (t := 2) kqv18⟩
      refine W.eq (g2 := F0 m 56 ls [va_rf rv30]) (by rw [← erv30]) ?_
      refine W.widen (k := 3) (n := 3665) (by first | decide | omega) (by first | decide | omega) ?_
      exact r_retR (v := rv30) C hr hlk hM (by first | (obtain ⟨m1, a1, a2, a3, a4, a5⟩ := tab1 (a := h0) hI kh0 eT hm hTt (j := xv1.toNatClampNeg) (fun h => by have := hT2 h; rw [← exv1] at this; omega) (by rw [eS]; simp) hOm; exact ⟨m1, a1, a2, by omega, by omega, hX, a5, _, erv30.symm.trans eS, krv30 _ (erv30.symm.trans eS)⟩) | (obtain ⟨m1, a1, a2, a3, a4, a5⟩ := tab1 (a := h0) (m := mt) hI kh0 ((hm9 1103 h0 hh9).2.trans ((cl2_ne hh9).trans eT)) hm (fun i hi => up2S (fun z => hTt i hi ((ha9 _ i (by rw [kTn]; decide)).symm.trans z))) (j := xv1.toNatClampNeg) (fun h => by have := hT2 h; rw [← exv1] at this; omega) up2T (fun h => (congrArg Int32.toInt ((hm9 1111 h0 hh9).1.trans (cl2_ne hh9))).trans (hOm h)); have e9 := erv30; rw [e51] at e9; exact ⟨m1, a1, a2, by omega, by omega, hX, a5, _, e9.symm.trans up2_eq, krv30 _ (e9.symm.trans up2_eq)⟩)) dX11_oldestTable_56
set_option maxHeartbeats 4000000 in
set_option maxRecDepth 100000 in
theorem c_X11_likenessFor (l : Launch) (D : gD) (H0 : gB) (S : Mem) (kc ns : Nat) (h0 h1 h2 : Nat) {u : Nat} {tl : Int} {rho : Nat × Nat} (hI : CI x0 u tl rho S) (hu : u < 2000000000) (hm : rho.2 ≤ 8) (kh0 : mK S h0 = 12) (kh1 : mK S h1 = 6) (kh2 : mK S h2 = 5) : Met l yX11_likenessFor (wsU yX11_likenessFor cX11_likenessFor 6 (some (.object "ClickBench$Likeness"))) ({ frames := 5, cells := 3, slots := 3665, locals := 122 } : Room) (mP D H0 S kc ns [.ref h0, .ref h1, .ref h2]) (mQ D H0 gR (fun r S1 k1 n1 => ∃ m1, rho.2 ≤ m1 ∧ m1 ≤ 8 ∧ k1 ≤ kc + 3 * (m1 - rho.2) ∧ n1 ≤ ns + 3665 * (m1 - rho.2) ∧ mX S S1 ∧ CI x0 u tl (rho.1, m1) S1 ∧ ∃ q, r = some q ∧ mK S1 q = 3)) 3 3665 (mF H0) := by
  refine r_met (own := RX11) (by decide +kernel) rfl (Nat.le_of_ble_eq_true rfl) ?_
  intro p e s m args below meth c C hr hlk hnm H ls hl hM
  obtain ⟨hx, hb, hml, hown, hts, -, -⟩ := id C
  have hl : lv_has ls 6 [(0, .ref h0), (1, .ref h1), (2, .ref h2)] := hl
  have hI0 := hI
  have hX : mX S S := mX.rf
  have t_0 : (0 : Int32).toInt = 0 := by decide
  have t_1 : (1 : Int32).toInt = 1 := by decide
  have t_8 : (8 : Int32).toInt = 8 := by decide
  refine lv_null hx hb dX11_likenessFor_0 ?_
  refine lv_astore_nN (lv' := [(3, .null), (0, .ref h0), (1, .ref h1), (2, .ref h2)]) hx hb dX11_likenessFor_1 rfl hl (by decide) rfl (fun ls hl => ?_)
  refine lv_iconst (v := 0) hx hb dX11_likenessFor_2 (by decide) ?_
  refine lv_istore (lv' := [(4, .int 0), (3, .null), (0, .ref h0), (1, .ref h1), (2, .ref h2)]) hx hb dX11_likenessFor_3 hl (by decide) rfl (fun ls hl => ?_)
  have loop5 : ∀ (fu : Nat) (j : Int32) (o : Option Nat) (H : Heap) (locs : List Loc) (ls : Array Slot), (0 ≤ j.toInt) → (∀ z, o = some z → mK S z = 3) → (8 - j.toInt).toNat < fu → lv_has ls 6 [(0, .ref h0), (1, .ref h1), (2, .ref h2), (3, va_rf o), (4, .int j)] → mH D H0 S kc ns H locs → W p l e ({ frames := 5, cells := 3, slots := 3665, locals := 122 } : Room) s m args below meth c H locs 0 0 (MQ below (mQ D H0 gR (fun r S1 k1 n1 => ∃ m1, rho.2 ≤ m1 ∧ m1 ≤ 8 ∧ k1 ≤ kc + 3 * (m1 - rho.2) ∧ n1 ≤ ns + 3665 * (m1 - rho.2) ∧ mX S S1 ∧ CI x0 u tl (rho.1, m1) S1 ∧ ∃ q, r = some q ∧ mK S1 q = 3)) args s 3 3665 (mF H0)) (F0 m 5 ls []) := by
    intro fu
    induction fu with
    | zero => intro j o H locs ls h5_0 h5_1 hfu; exact absurd hfu (by omega)
    | succ fu ih5 =>
      intro j o H locs ls h5_0 h5_1 hfu hl hM
      have ko := h5_1
      refine lv_iload hx hb dX11_likenessFor_5 (lv_at hl 4 rfl) ?_
      refine lv_bipush (v := 8) hx hb dX11_likenessFor_7 (by decide) ?_
      refine lv_icmp_ge (tgt := 60) hx hb dX11_likenessFor_9 (by decide) (fun cv1 => ?_) (fun cv1 => ?_)
      · have tcv1 := leT cv1
        refine lv_aload_nQ hx hb dX11_likenessFor_60 rfl (lv_at hl 3 rfl) ?_
        cases o with
        | none =>
          refine lv_ifnonnullN hx hb dX11_likenessFor_61 ?_
          refine lv_aload_n hx hb dX11_likenessFor_64 rfl (lv_at hl 0 rfl) ?_
          refine r_V (As := []) (rest := []) (ci := 11) C hM (c_X11_oldestTable l D H0 S kc ns h0 rho.2 (CI.noinfo hI) (show 8 < 9 by decide) kh0 hm (fun t ht => (NI.tabs hI.2 _ t hm kh0 ht).1) (fun h => (TI.nn hI.1 (ci := 11) (k := 3) kh0).elim (fun t ht => (NI.tabs hI.2 _ t hm kh0 ht.1).2 h))) i_X11_oldestTable m_X11_282 kh0 rfl rfl rfl hl.1 rfl (Nat.le_of_ble_eq_true rfl) ⟨by decide, by decide⟩ ⟨by decide, by decide⟩ dX11_likenessFor_65 (fun rv6 Sv3 kv4 nv5 H locs pv7 hM => ?_)
          obtain ⟨m9, hm1, hm2, hk1, hn1, hx9, hI, hr9⟩ := pv7
          have kh0 : mK Sv3 h0 = 12 := (hx9).k kh0
          have kh1 : mK Sv3 h1 = 6 := (hx9).k kh1
          have kh2 : mK Sv3 h2 = 5 := (hx9).k kh2
          have hX := hX.trans hx9
          obtain ⟨qv8, rfl, kqv8⟩ := hr9
          refine W.eq (g2 := F0 m 68 ls [.ref qv8]) rfl ?_
          refine lv_astore_n (lv' := [(3, .ref qv8), (0, .ref h0), (1, .ref h1), (2, .ref h2), (4, .int j)]) hx hb dX11_likenessFor_68 rfl hl (by decide) rfl (fun ls hl => ?_)
          refine lv_aload_n hx hb dX11_likenessFor_69 rfl (lv_at hl 0 rfl) ?_
          refine lv_aload_n hx hb dX11_likenessFor_70 rfl (lv_at hl 2 rfl) ?_
          obtain ⟨qv9, eqv9, kqv9, nqv9⟩ := TI.nn (hx := (by simp [xl, x0])) hI.1 (ci := 5) (k := 0) kh1
          refine r_getN (ci := 5) (k := 0) (v := .ref qv9) C hM kh1 f_X11_158 (congrArg va_rf eqv9) dX11_likenessFor_71 ?_
          refine lv_aload_n hx hb dX11_likenessFor_74 rfl (lv_at hl 3 rfl) ?_
          refine r_VN (As := [.ref qv9, .ref h2]) (rest := []) (ci := 2) C hM (c_X2_begin l D H0 Sv3 kv4 nv5 qv8 qv9 h2 hI kqv8 kqv9 kh2) i_X2_begin m_X11_286 kqv8 rfl rfl rfl hl.1 rfl (Nat.le_of_ble_eq_true rfl) ⟨by decide, by decide⟩ ⟨by decide, by decide⟩ dX11_likenessFor_75 (fun uv13 Sv10 kv11 nv12 H locs pv14 hM => ?_)
          obtain ⟨rfl, rfl, hk9, hI, huv13⟩ := pv14
          have kqv8 : mK Sv10 qv8 = 3 := (congrFun (hk9) qv8).trans kqv8
          have kh0 : mK Sv10 h0 = 12 := (congrFun (hk9) h0).trans kh0
          have kh1 : mK Sv10 h1 = 6 := (congrFun (hk9) h1).trans kh1
          have kh2 : mK Sv10 h2 = 5 := (congrFun (hk9) h2).trans kh2
          have hX := hX.trans (mX.of hk9)
          refine W.eq (g2 := F0 m 78 ls []) rfl ?_
          refine lv_aload_n hx hb dX11_likenessFor_78 rfl (lv_at hl 0 rfl) ?_
          refine lv_aload_n hx hb dX11_likenessFor_79 rfl (lv_at hl 2 rfl) ?_
          refine r_VN (As := [.ref h1]) (rest := []) (ci := 2) C hM (c_X2_measure l D H0 Sv10 kv4 nv5 qv8 h1 hI hu kqv8 kh1) i_X2_measure m_X11_289 kqv8 rfl rfl rfl hl.1 rfl (Nat.le_of_ble_eq_true rfl) ⟨by decide, by decide⟩ ⟨by decide, by decide⟩ dX11_likenessFor_80 (fun uv18 Sv15 kv16 nv17 H locs pv19 hM => ?_)
          obtain ⟨rfl, rfl, hf9, huv18⟩ := pv19
          have hI := hI.fe hf9
          have kqv8 : mK Sv15 qv8 = 3 := (congrFun (hf9.1) qv8).trans kqv8
          have kh0 : mK Sv15 h0 = 12 := (congrFun (hf9.1) h0).trans kh0
          have kh1 : mK Sv15 h1 = 6 := (congrFun (hf9.1) h1).trans kh1
          have kh2 : mK Sv15 h2 = 5 := (congrFun (hf9.1) h2).trans kh2
          have hX := hX.trans (mX.of hf9.1)
          refine W.eq (g2 := F0 m 83 ls []) rfl ?_
          refine lv_aload_n hx hb dX11_likenessFor_83 rfl (lv_at hl 0 rfl) ?_
          refine W.widen (k := 3) (n := 3665) (by first | decide | omega) (by first | decide | omega) ?_
          exact r_retR (v := (some qv8)) C hr hlk hM (by first | exact ⟨m9, hm1, hm2, by omega, by omega, hX, hI, _, rfl, kqv8⟩ | exact ⟨rho.2, Nat.le_refl _, hm, by omega, by omega, hX, hI, _, rfl, kqv8⟩) dX11_likenessFor_84
        | some qv2 =>
          have kqv2 : mK S qv2 = 3 := ko qv2 rfl
          refine lv_ifnonnull (tgt := 78) hx hb dX11_likenessFor_61 (by decide) ?_
          refine lv_aload_n hx hb dX11_likenessFor_78 rfl (lv_at hl 3 rfl) ?_
          refine lv_aload_n hx hb dX11_likenessFor_79 rfl (lv_at hl 1 rfl) ?_
          refine r_VN (As := [.ref h1]) (rest := []) (ci := 2) C hM (c_X2_measure l D H0 S kc ns qv2 h1 hI hu kqv2 kh1) i_X2_measure m_X11_289 kqv2 rfl rfl rfl hl.1 rfl (Nat.le_of_ble_eq_true rfl) ⟨by decide, by decide⟩ ⟨by decide, by decide⟩ dX11_likenessFor_80 (fun uv23 Sv20 kv21 nv22 H locs pv24 hM => ?_)
          obtain ⟨rfl, rfl, hf9, huv23⟩ := pv24
          have hI := hI.fe hf9
          have kh0 : mK Sv20 h0 = 12 := (congrFun (hf9.1) h0).trans kh0
          have kh1 : mK Sv20 h1 = 6 := (congrFun (hf9.1) h1).trans kh1
          have kh2 : mK Sv20 h2 = 5 := (congrFun (hf9.1) h2).trans kh2
          have kqv2 : mK Sv20 qv2 = 3 := (congrFun (hf9.1) qv2).trans kqv2
          have hX := hX.trans (mX.of hf9.1)
          refine W.eq (g2 := F0 m 83 ls []) rfl ?_
          refine lv_aload_n hx hb dX11_likenessFor_83 rfl (lv_at hl 3 rfl) ?_
          refine W.widen (k := 3) (n := 3665) (by first | decide | omega) (by first | decide | omega) ?_
          exact r_retR (v := (some qv2)) C hr hlk hM (by first | exact ⟨m9, hm1, hm2, by omega, by omega, hX, hI, _, rfl, kqv2⟩ | exact ⟨rho.2, Nat.le_refl _, hm, by omega, by omega, hX, hI, _, rfl, kqv2⟩) dX11_likenessFor_84
      · have tcv1 := leF cv1
        refine lv_aload_nQ hx hb dX11_likenessFor_12 rfl (lv_at hl 3 rfl) ?_
        cases o with
        | none =>
          refine lv_ifnonnullN hx hb dX11_likenessFor_13 ?_
          refine lv_aload_n hx hb dX11_likenessFor_16 rfl (lv_at hl 0 rfl) ?_
          obtain ⟨qv26, eqv26, kqv26, nqv26⟩ := TI.nn (hx := (by simp [xl, x0])) hI.1 (ci := 11) (k := 3) kh0
          refine r_get (ci := 11) (k := 3) (v := .ref qv26) C hM kh0 f_X11_33 (congrArg va_rf eqv26) dX11_likenessFor_17 ?_
          refine lv_iload hx hb dX11_likenessFor_20 (lv_at hl 4 rfl) ?_
          refine r_aald (t := 2) C hM kqv26 rfl (by decide) (inI (by omega) (by rw [nqv26 (by decide)]; show _ < (8 : Int); omega)) dX11_likenessFor_22 ?_
          obtain ⟨rv27, erv27, krv27⟩ : ∃ r : Option Nat, aR S qv26 j.toNatClampNeg = r ∧ ∀ q, r = some q → mK S q = 3 := ⟨_, rfl, TI.arr hI.1 (t := 2) kqv26⟩
          refine W.eq (g2 := F0 m 23 ls [va_rf rv27]) (by rw [← erv27]) ?_
          refine lv_astoreQ (lv' := [(5, va_rf rv27), (0, .ref h0), (1, .ref h1), (2, .ref h2), (3, .null), (4, .int j)]) hx hb dX11_likenessFor_23 hl (by decide) rfl (fun ls hl => ?_)
          refine lv_aloadQ hx hb dX11_likenessFor_25 (lv_at hl 0 rfl) ?_
          cases rv27 with
          | none =>
            refine lv_ifnullN (tgt := 54) hx hb dX11_likenessFor_27 (by decide) ?_
            obtain ⟨xv29, exv29⟩ : ∃ y : Int32, y = j + 1 := ⟨_, rfl⟩
            try (have txv29 := addI (a := j) (b := 1) (by omega) (by omega); rw [← exv29] at txv29)
            refine lv_iinc (v := xv29) (lv' := [(4, .int xv29), (5, .null), (0, .ref h0), (1, .ref h1), (2, .ref h2), (3, .null)]) hx hb dX11_likenessFor_54 hl (k := 5) rfl (by rw [exv29]; rfl) (by decide) rfl (fun ls hl => ?_)
            refine lv_goto (tgt := 5) hx hb dX11_likenessFor_57 (by decide) ?_
            exact ih5 xv29 none _ _ _ (by omega) (fun z h => by cases h) (by omega) (lv_sub hl [2, 3, 4, 5, 0] rfl) hM
          | some qv28 =>
            have kqv28 : mK S qv28 = 3 := krv27 qv28 rfl
            refine lv_ifnull hx hb dX11_likenessFor_27 ?_
            refine lv_aload hx hb dX11_likenessFor_30 (lv_at hl 0 rfl) ?_
            refine r_getN (ci := 2) (k := 3) C hM kqv28 f_X11_276 rfl dX11_likenessFor_32 ?_
            obtain ⟨rv30, erv30, krv30⟩ : ∃ r : Option Nat, mR S 203 qv28 = r ∧ ∀ q, r = some q → mK S q = 5 := ⟨_, rfl, TI.opt hI.1 (ci := 2) (k := 3) kqv28⟩
            refine W.eq (g2 := F0 m 35 ls [va_rf rv30]) (by rw [← erv30]; rfl) ?_
            refine lv_aload_n hx hb dX11_likenessFor_35 rfl (lv_at hl 2 rfl) ?_
            obtain ⟨qv31, eqv31, kqv31, nqv31⟩ := TI.nn (hx := (by simp [xl, x0])) hI.1 (ci := 5) (k := 0) kh1
            refine r_getN (ci := 5) (k := 0) (v := .ref qv31) C hM kh1 f_X11_158 (congrArg va_rf eqv31) dX11_likenessFor_36 ?_
            refine lv_acmp_ne (rx := rv30) (ry := some qv31) (tgt := 54) hx hb dX11_likenessFor_39 (by decide) (fun cv32 => ?_) (fun cv32 => ?_)
            · have tcv32 := trivial
              obtain ⟨xv33, exv33⟩ : ∃ y : Int32, y = j + 1 := ⟨_, rfl⟩
              try (have txv33 := addI (a := j) (b := 1) (by omega) (by omega); rw [← exv33] at txv33)
              refine lv_iinc (v := xv33) (lv' := [(4, .int xv33), (5, .ref qv28), (0, .ref h0), (1, .ref h1), (2, .ref h2), (3, .null)]) hx hb dX11_likenessFor_54 hl (k := 5) rfl (by rw [exv33]; rfl) (by decide) rfl (fun ls hl => ?_)
              refine lv_goto (tgt := 5) hx hb dX11_likenessFor_57 (by decide) ?_
              exact ih5 xv33 none _ _ _ (by omega) (fun z h => by cases h) (by omega) (lv_sub hl [2, 3, 4, 5, 0] rfl) hM
            · have tcv32 := trivial
              refine lv_aload hx hb dX11_likenessFor_42 (lv_at hl 0 rfl) ?_
              refine r_getN (ci := 2) (k := 4) C hM kqv28 f_X11_279 rfl dX11_likenessFor_44 ?_
              obtain ⟨rv34, erv34, krv34⟩ : ∃ r : Option Nat, mR S 204 qv28 = r ∧ ∀ q, r = some q → mK S q = 5 := ⟨_, rfl, TI.opt hI.1 (ci := 2) (k := 4) kqv28⟩
              refine W.eq (g2 := F0 m 47 ls [va_rf rv34]) (by rw [← erv34]; rfl) ?_
              refine lv_aload_n hx hb dX11_likenessFor_47 rfl (lv_at hl 3 rfl) ?_
              refine lv_acmp_ne (rx := rv34) (ry := some h2) (tgt := 54) hx hb dX11_likenessFor_48 (by decide) (fun cv35 => ?_) (fun cv35 => ?_)
              · have tcv35 := trivial
                obtain ⟨xv36, exv36⟩ : ∃ y : Int32, y = j + 1 := ⟨_, rfl⟩
                try (have txv36 := addI (a := j) (b := 1) (by omega) (by omega); rw [← exv36] at txv36)
                refine lv_iinc (v := xv36) (lv' := [(4, .int xv36), (5, .ref qv28), (0, .ref h0), (1, .ref h1), (2, .ref h2), (3, .null)]) hx hb dX11_likenessFor_54 hl (k := 5) rfl (by rw [exv36]; rfl) (by decide) rfl (fun ls hl => ?_)
                refine lv_goto (tgt := 5) hx hb dX11_likenessFor_57 (by decide) ?_
                exact ih5 xv36 none _ _ _ (by omega) (fun z h => by cases h) (by omega) (lv_sub hl [2, 3, 4, 5, 0] rfl) hM
              · have tcv35 := trivial
                refine lv_aload hx hb dX11_likenessFor_51 (lv_at hl 0 rfl) ?_
                refine lv_astore_n (lv' := [(3, .ref qv28), (5, .ref qv28), (0, .ref h0), (1, .ref h1), (2, .ref h2), (4, .int j)]) hx hb dX11_likenessFor_53 rfl hl (by decide) rfl (fun ls hl => ?_)
                obtain ⟨xv37, exv37⟩ : ∃ y : Int32, y = j + 1 := ⟨_, rfl⟩
                try (have txv37 := addI (a := j) (b := 1) (by omega) (by omega); rw [← exv37] at txv37)
                refine lv_iinc (v := xv37) (lv' := [(4, .int xv37), (3, .ref qv28), (5, .ref qv28), (0, .ref h0), (1, .ref h1), (2, .ref h2)]) hx hb dX11_likenessFor_54 hl (k := 5) rfl (by rw [exv37]; rfl) (by decide) rfl (fun ls hl => ?_)
                refine lv_goto (tgt := 5) hx hb dX11_likenessFor_57 (by decide) ?_
                exact ih5 xv37 (some qv28) _ _ _ (by omega) (fun z h => by cases h; exact kqv28) (by omega) (lv_sub hl [3, 4, 5, 1, 0] rfl) hM
        | some qv25 =>
          have kqv25 : mK S qv25 = 3 := ko qv25 rfl
          refine lv_ifnonnull (tgt := 60) hx hb dX11_likenessFor_13 (by decide) ?_
          refine lv_aload_n hx hb dX11_likenessFor_60 rfl (lv_at hl 3 rfl) ?_
          refine lv_ifnonnull (tgt := 78) hx hb dX11_likenessFor_61 (by decide) ?_
          refine lv_aload_n hx hb dX11_likenessFor_78 rfl (lv_at hl 3 rfl) ?_
          refine lv_aload_n hx hb dX11_likenessFor_79 rfl (lv_at hl 1 rfl) ?_
          refine r_VN (As := [.ref h1]) (rest := []) (ci := 2) C hM (c_X2_measure l D H0 S kc ns qv25 h1 hI hu kqv25 kh1) i_X2_measure m_X11_289 kqv25 rfl rfl rfl hl.1 rfl (Nat.le_of_ble_eq_true rfl) ⟨by decide, by decide⟩ ⟨by decide, by decide⟩ dX11_likenessFor_80 (fun uv41 Sv38 kv39 nv40 H locs pv42 hM => ?_)
          obtain ⟨rfl, rfl, hf9, huv41⟩ := pv42
          have hI := hI.fe hf9
          have kh0 : mK Sv38 h0 = 12 := (congrFun (hf9.1) h0).trans kh0
          have kh1 : mK Sv38 h1 = 6 := (congrFun (hf9.1) h1).trans kh1
          have kh2 : mK Sv38 h2 = 5 := (congrFun (hf9.1) h2).trans kh2
          have kqv25 : mK Sv38 qv25 = 3 := (congrFun (hf9.1) qv25).trans kqv25
          have hX := hX.trans (mX.of hf9.1)
          refine W.eq (g2 := F0 m 83 ls []) rfl ?_
          refine lv_aload_n hx hb dX11_likenessFor_83 rfl (lv_at hl 3 rfl) ?_
          refine W.widen (k := 3) (n := 3665) (by first | decide | omega) (by first | decide | omega) ?_
          exact r_retR (v := (some qv25)) C hr hlk hM (by first | exact ⟨m9, hm1, hm2, by omega, by omega, hX, hI, _, rfl, kqv25⟩ | exact ⟨rho.2, Nat.le_refl _, hm, by omega, by omega, hX, hI, _, rfl, kqv25⟩) dX11_likenessFor_84
  exact loop5 (((8 - (0 : Int32).toInt).toNat) + 1) 0 none _ _ _ (by omega) (fun z h => by cases h) (by omega) (lv_sub hl [2, 3, 4, 1, 0] rfl) hM
set_option maxHeartbeats 4000000 in
set_option maxRecDepth 100000 in
theorem c_X11_far (l : Launch) (D : gD) (H0 : gB) (S : Mem) (kc ns : Nat) (h0 : Nat) (i0 i1 i2 i3 : Int32) {u : Nat} {tl : Int} {rho : Nat × Nat} (hI : CI x0 u tl rho S) (hu : u < 2000000000) (hm : rho.2 ≤ 8) (kh0 : mK S h0 = 12) : Met l yX11_far (wsU yX11_far cX11_far 7 (some .int)) ({ frames := 6, cells := 3, slots := 3665, locals := 147 } : Room) (mP D H0 S kc ns [.ref h0, .int i0, .int i1, .int i2, .int i3]) (mQ D H0 gI (fun r S1 k1 n1 => ∃ m1, rho.2 ≤ m1 ∧ m1 ≤ 8 ∧ k1 ≤ kc + 3 * (m1 - rho.2) ∧ n1 ≤ ns + 3665 * (m1 - rho.2) ∧ mX S S1 ∧ CI x0 u tl (rho.1, m1) S1 ∧ True)) 3 3665 (mF H0) := by
  refine r_met (own := RX11) (by decide +kernel) rfl (Nat.le_of_ble_eq_true rfl) ?_
  intro p e s m args below meth c C hr hlk hnm H ls hl hM
  obtain ⟨hx, hb, hml, hown, hts, -, -⟩ := id C
  have hl : lv_has ls 7 [(0, .ref h0), (1, .int i0), (2, .int i1), (3, .int i2), (4, .int i3)] := hl
  have hI0 := hI
  have hX : mX S S := mX.rf
  have t_m1 : (-1 : Int32).toInt = -1 := by decide
  have t_0 : (0 : Int32).toInt = 0 := by decide
  refine lv_aload_n hx hb dX11_far_0 rfl (lv_at hl 0 rfl) ?_
  refine lv_iload_n hx hb dX11_far_1 rfl (lv_at hl 1 rfl) ?_
  refine lv_iload_n hx hb dX11_far_2 rfl (lv_at hl 2 rfl) ?_
  refine r_V (As := [.int i0, .int i1]) (rest := []) (ci := 11) C hM (c_X11_partOn l D H0 S kc ns h0 i0 i1 hI kh0) i_X11_partOn m_X11_101 kh0 rfl rfl rfl hl.1 rfl (Nat.le_of_ble_eq_true rfl) ⟨by decide, by decide⟩ ⟨by decide, by decide⟩ dX11_far_3 (fun rv4 Sv1 kv2 nv3 H locs pv5 hM => ?_)
  obtain ⟨rfl, rfl, rfl, krv4⟩ := pv5
  refine W.eq (g2 := F0 m 6 ls [va_rf rv4]) rfl ?_
  refine lv_astoreQ (lv' := [(5, va_rf rv4), (0, .ref h0), (1, .int i0), (2, .int i1), (3, .int i2), (4, .int i3)]) hx hb dX11_far_6 hl (by decide) rfl (fun ls hl => ?_)
  refine lv_aload_n hx hb dX11_far_8 rfl (lv_at hl 1 rfl) ?_
  refine lv_iload_n hx hb dX11_far_9 rfl (lv_at hl 4 rfl) ?_
  refine lv_iload hx hb dX11_far_10 (lv_at hl 5 rfl) ?_
  refine r_V (As := [.int i2, .int i3]) (rest := []) (ci := 11) C hM (c_X11_partOn l D H0 S kc ns h0 i2 i3 hI kh0) i_X11_partOn m_X11_101 kh0 rfl rfl rfl hl.1 rfl (Nat.le_of_ble_eq_true rfl) ⟨by decide, by decide⟩ ⟨by decide, by decide⟩ dX11_far_12 (fun rv9 Sv6 kv7 nv8 H locs pv10 hM => ?_)
  obtain ⟨rfl, rfl, rfl, krv9⟩ := pv10
  refine W.eq (g2 := F0 m 15 ls [va_rf rv9]) rfl ?_
  refine lv_astoreQ (lv' := [(6, va_rf rv9), (5, va_rf rv4), (0, .ref h0), (1, .int i0), (2, .int i1), (3, .int i2), (4, .int i3)]) hx hb dX11_far_15 hl (by decide) (by simp [cat_rf, cat_i, cat_l, cat_a, cat_n] <;> first | decide | (repeat' (first | rfl | constructor))) (fun ls hl => ?_)
  refine lv_aloadQ hx hb dX11_far_17 (lv_at hl 1 rfl) ?_
  cases rv4 with
  | none =>
    refine lv_ifnullN (tgt := 27) hx hb dX11_far_19 (by decide) ?_
    refine lv_iconst (v := -1) hx hb dX11_far_27 (by decide) ?_
    refine W.widen (k := 3) (n := 3665) (by first | decide | omega) (by first | decide | omega) ?_
    exact r_retI C hr hlk hM (by first | exact ⟨m9, hm1, hm2, by omega, by omega, hX, hI, trivial⟩ | exact ⟨rho.2, Nat.le_refl _, hm, by omega, by omega, hX, hI, trivial⟩) dX11_far_28
  | some qv11 =>
    have kqv11 : mK S qv11 = 6 := krv4 qv11 rfl
    refine lv_ifnull hx hb dX11_far_19 ?_
    refine lv_aloadQ hx hb dX11_far_22 (lv_at hl 0 rfl) ?_
    cases rv9 with
    | none =>
      refine lv_ifnonnullN hx hb dX11_far_24 ?_
      refine lv_iconst (v := -1) hx hb dX11_far_27 (by decide) ?_
      refine W.widen (k := 3) (n := 3665) (by first | decide | omega) (by first | decide | omega) ?_
      exact r_retI C hr hlk hM (by first | exact ⟨m9, hm1, hm2, by omega, by omega, hX, hI, trivial⟩ | exact ⟨rho.2, Nat.le_refl _, hm, by omega, by omega, hX, hI, trivial⟩) dX11_far_28
    | some qv12 =>
      have kqv12 : mK S qv12 = 6 := krv9 qv12 rfl
      refine lv_ifnonnull (tgt := 29) hx hb dX11_far_24 (by decide) ?_
      refine lv_aload_n hx hb dX11_far_29 rfl (lv_at hl 2 rfl) ?_
      refine lv_aload hx hb dX11_far_30 (lv_at hl 1 rfl) ?_
      refine lv_aload hx hb dX11_far_32 (lv_at hl 0 rfl) ?_
      obtain ⟨qv13, eqv13, kqv13, nqv13⟩ := TI.nn (hx := (by simp [xl, x0])) hI.1 (ci := 5) (k := 0) kqv12
      refine r_getN (ci := 5) (k := 0) (v := .ref qv13) C hM kqv12 f_X11_158 (congrArg va_rf eqv13) dX11_far_34 ?_
      refine r_V (As := [.ref qv11, .ref qv13]) (rest := []) (ci := 11) C hM (c_X11_likenessFor l D H0 S kc ns h0 qv11 qv13 hI hu hm kh0 kqv11 kqv13) i_X11_likenessFor m_X11_162 kh0 rfl rfl rfl hl.1 rfl (Nat.le_of_ble_eq_true rfl) ⟨by decide, by decide⟩ ⟨by decide, by decide⟩ dX11_far_37 (fun rv17 Sv14 kv15 nv16 H locs pv18 hM => ?_)
      obtain ⟨m9, hm1, hm2, hk1, hn1, hx9, hI, hr9⟩ := pv18
      have kqv12 : mK Sv14 qv12 = 6 := (hx9).k kqv12
      have kqv11 : mK Sv14 qv11 = 6 := (hx9).k kqv11
      have kh0 : mK Sv14 h0 = 12 := (hx9).k kh0
      have hX := hX.trans hx9
      obtain ⟨qv19, rfl, kqv19⟩ := hr9
      refine W.eq (g2 := F0 m 40 ls [.ref qv19]) rfl ?_
      refine lv_aload hx hb dX11_far_40 (lv_at hl 1 rfl) ?_
      refine lv_aload hx hb dX11_far_42 (lv_at hl 0 rfl) ?_
      refine r_VN (As := [.ref qv11, .ref qv12]) (rest := []) (ci := 2) C hM (c_X2_farOf l D H0 Sv14 kv15 nv16 qv19 qv11 qv12 hI kqv19 kqv11 kqv12) i_X2_farOf m_X11_166 kqv19 rfl rfl rfl hl.1 rfl (Nat.le_of_ble_eq_true rfl) ⟨by decide, by decide⟩ ⟨by decide, by decide⟩ dX11_far_44 (fun xv23 Sv20 kv21 nv22 H locs pv24 hM => ?_)
      obtain ⟨rfl, rfl, rfl, hxv23⟩ := pv24
      refine W.eq (g2 := F0 m 47 ls [.int xv23]) rfl ?_
      refine W.widen (k := 3) (n := 3665) (by first | decide | omega) (by first | decide | omega) ?_
      exact r_retI C hr hlk hM (by first | exact ⟨m9, hm1, hm2, by omega, by omega, hX, hI, trivial⟩ | exact ⟨rho.2, Nat.le_refl _, hm, by omega, by omega, hX, hI, trivial⟩) dX11_far_47
set_option maxHeartbeats 4000000 in
set_option maxRecDepth 100000 in
theorem c_X11_cost (l : Launch) (D : gD) (H0 : gB) (S : Mem) (kc ns : Nat) (h0 : Nat) (i0 i1 i2 i3 : Int32) {u : Nat} {tl : Int} {rho : Nat × Nat} (hI : CI x0 u tl rho S) (hu : u < 2000000000) (hm : rho.2 ≤ 8) (kh0 : mK S h0 = 12) : Met l yX11_cost (wsU yX11_cost cX11_cost 7 (some .int)) ({ frames := 6, cells := 3, slots := 3665, locals := 147 } : Room) (mP D H0 S kc ns [.ref h0, .int i0, .int i1, .int i2, .int i3]) (mQ D H0 gI (fun r S1 k1 n1 => ∃ m1, rho.2 ≤ m1 ∧ m1 ≤ 8 ∧ k1 ≤ kc + 3 * (m1 - rho.2) ∧ n1 ≤ ns + 3665 * (m1 - rho.2) ∧ mX S S1 ∧ CI x0 u tl (rho.1, m1) S1 ∧ True)) 3 3665 (mF H0) := by
  refine r_met (own := RX11) (by decide +kernel) rfl (Nat.le_of_ble_eq_true rfl) ?_
  intro p e s m args below meth c C hr hlk hnm H ls hl hM
  obtain ⟨hx, hb, hml, hown, hts, -, -⟩ := id C
  have hl : lv_has ls 7 [(0, .ref h0), (1, .int i0), (2, .int i1), (3, .int i2), (4, .int i3)] := hl
  have hI0 := hI
  have hX : mX S S := mX.rf
  have t_m1 : (-1 : Int32).toInt = -1 := by decide
  have t_0 : (0 : Int32).toInt = 0 := by decide
  refine lv_aload_n hx hb dX11_cost_0 rfl (lv_at hl 0 rfl) ?_
  refine lv_iload_n hx hb dX11_cost_1 rfl (lv_at hl 1 rfl) ?_
  refine lv_iload_n hx hb dX11_cost_2 rfl (lv_at hl 2 rfl) ?_
  refine r_V (As := [.int i0, .int i1]) (rest := []) (ci := 11) C hM (c_X11_partOn l D H0 S kc ns h0 i0 i1 hI kh0) i_X11_partOn m_X11_101 kh0 rfl rfl rfl hl.1 rfl (Nat.le_of_ble_eq_true rfl) ⟨by decide, by decide⟩ ⟨by decide, by decide⟩ dX11_cost_3 (fun rv4 Sv1 kv2 nv3 H locs pv5 hM => ?_)
  obtain ⟨rfl, rfl, rfl, krv4⟩ := pv5
  refine W.eq (g2 := F0 m 6 ls [va_rf rv4]) rfl ?_
  refine lv_astoreQ (lv' := [(5, va_rf rv4), (0, .ref h0), (1, .int i0), (2, .int i1), (3, .int i2), (4, .int i3)]) hx hb dX11_cost_6 hl (by decide) rfl (fun ls hl => ?_)
  refine lv_aload_n hx hb dX11_cost_8 rfl (lv_at hl 1 rfl) ?_
  refine lv_iload_n hx hb dX11_cost_9 rfl (lv_at hl 4 rfl) ?_
  refine lv_iload hx hb dX11_cost_10 (lv_at hl 5 rfl) ?_
  refine r_V (As := [.int i2, .int i3]) (rest := []) (ci := 11) C hM (c_X11_partOn l D H0 S kc ns h0 i2 i3 hI kh0) i_X11_partOn m_X11_101 kh0 rfl rfl rfl hl.1 rfl (Nat.le_of_ble_eq_true rfl) ⟨by decide, by decide⟩ ⟨by decide, by decide⟩ dX11_cost_12 (fun rv9 Sv6 kv7 nv8 H locs pv10 hM => ?_)
  obtain ⟨rfl, rfl, rfl, krv9⟩ := pv10
  refine W.eq (g2 := F0 m 15 ls [va_rf rv9]) rfl ?_
  refine lv_astoreQ (lv' := [(6, va_rf rv9), (5, va_rf rv4), (0, .ref h0), (1, .int i0), (2, .int i1), (3, .int i2), (4, .int i3)]) hx hb dX11_cost_15 hl (by decide) (by simp [cat_rf, cat_i, cat_l, cat_a, cat_n] <;> first | decide | (repeat' (first | rfl | constructor))) (fun ls hl => ?_)
  refine lv_aloadQ hx hb dX11_cost_17 (lv_at hl 1 rfl) ?_
  cases rv4 with
  | none =>
    refine lv_ifnullN (tgt := 27) hx hb dX11_cost_19 (by decide) ?_
    refine lv_iconst (v := -1) hx hb dX11_cost_27 (by decide) ?_
    refine W.widen (k := 3) (n := 3665) (by first | decide | omega) (by first | decide | omega) ?_
    exact r_retI C hr hlk hM (by first | exact ⟨m9, hm1, hm2, by omega, by omega, hX, hI, trivial⟩ | exact ⟨rho.2, Nat.le_refl _, hm, by omega, by omega, hX, hI, trivial⟩) dX11_cost_28
  | some qv11 =>
    have kqv11 : mK S qv11 = 6 := krv4 qv11 rfl
    refine lv_ifnull hx hb dX11_cost_19 ?_
    refine lv_aloadQ hx hb dX11_cost_22 (lv_at hl 0 rfl) ?_
    cases rv9 with
    | none =>
      refine lv_ifnonnullN hx hb dX11_cost_24 ?_
      refine lv_iconst (v := -1) hx hb dX11_cost_27 (by decide) ?_
      refine W.widen (k := 3) (n := 3665) (by first | decide | omega) (by first | decide | omega) ?_
      exact r_retI C hr hlk hM (by first | exact ⟨m9, hm1, hm2, by omega, by omega, hX, hI, trivial⟩ | exact ⟨rho.2, Nat.le_refl _, hm, by omega, by omega, hX, hI, trivial⟩) dX11_cost_28
    | some qv12 =>
      have kqv12 : mK S qv12 = 6 := krv9 qv12 rfl
      refine lv_ifnonnull (tgt := 29) hx hb dX11_cost_24 (by decide) ?_
      refine lv_aload_n hx hb dX11_cost_29 rfl (lv_at hl 2 rfl) ?_
      refine lv_aload hx hb dX11_cost_30 (lv_at hl 1 rfl) ?_
      refine lv_aload hx hb dX11_cost_32 (lv_at hl 0 rfl) ?_
      obtain ⟨qv13, eqv13, kqv13, nqv13⟩ := TI.nn (hx := (by simp [xl, x0])) hI.1 (ci := 5) (k := 0) kqv12
      refine r_getN (ci := 5) (k := 0) (v := .ref qv13) C hM kqv12 f_X11_158 (congrArg va_rf eqv13) dX11_cost_34 ?_
      refine r_V (As := [.ref qv11, .ref qv13]) (rest := []) (ci := 11) C hM (c_X11_likenessFor l D H0 S kc ns h0 qv11 qv13 hI hu hm kh0 kqv11 kqv13) i_X11_likenessFor m_X11_162 kh0 rfl rfl rfl hl.1 rfl (Nat.le_of_ble_eq_true rfl) ⟨by decide, by decide⟩ ⟨by decide, by decide⟩ dX11_cost_37 (fun rv17 Sv14 kv15 nv16 H locs pv18 hM => ?_)
      obtain ⟨m9, hm1, hm2, hk1, hn1, hx9, hI, hr9⟩ := pv18
      have kqv12 : mK Sv14 qv12 = 6 := (hx9).k kqv12
      have kqv11 : mK Sv14 qv11 = 6 := (hx9).k kqv11
      have kh0 : mK Sv14 h0 = 12 := (hx9).k kh0
      have hX := hX.trans hx9
      obtain ⟨qv19, rfl, kqv19⟩ := hr9
      refine W.eq (g2 := F0 m 40 ls [.ref qv19]) rfl ?_
      refine lv_aload hx hb dX11_cost_40 (lv_at hl 1 rfl) ?_
      refine lv_aload hx hb dX11_cost_42 (lv_at hl 0 rfl) ?_
      refine r_VN (As := [.ref qv11, .ref qv12]) (rest := []) (ci := 2) C hM (c_X2_costOf l D H0 Sv14 kv15 nv16 qv19 qv11 qv12 hI kqv19 kqv11 kqv12) i_X2_costOf m_X11_170 kqv19 rfl rfl rfl hl.1 rfl (Nat.le_of_ble_eq_true rfl) ⟨by decide, by decide⟩ ⟨by decide, by decide⟩ dX11_cost_44 (fun xv23 Sv20 kv21 nv22 H locs pv24 hM => ?_)
      obtain ⟨rfl, rfl, rfl, hxv23⟩ := pv24
      refine W.eq (g2 := F0 m 47 ls [.int xv23]) rfl ?_
      refine W.widen (k := 3) (n := 3665) (by first | decide | omega) (by first | decide | omega) ?_
      exact r_retI C hr hlk hM (by first | exact ⟨m9, hm1, hm2, by omega, by omega, hX, hI, trivial⟩ | exact ⟨rho.2, Nat.le_refl _, hm, by omega, by omega, hX, hI, trivial⟩) dX11_cost_47
set_option maxHeartbeats 4000000 in
set_option maxRecDepth 100000 in
theorem c_X11_find (l : Launch) (D : gD) (H0 : gB) (S : Mem) (kc ns : Nat) (h0 : Nat) (i0 i1 i2 : Int32) {u : Nat} {tl : Int} {rho : Nat × Nat} (hI : CI x0 u tl rho S) (hu : u < 2000000000) (hm : rho.2 ≤ 8) (kh0 : mK S h0 = 12) : Met l yX11_find (wsU yX11_find cX11_find 6 (some .int)) ({ frames := 6, cells := 3, slots := 3665, locals := 147 } : Room) (mP D H0 S kc ns [.ref h0, .int i0, .int i1, .int i2]) (mQ D H0 gI (fun r S1 k1 n1 => ∃ m1, rho.2 ≤ m1 ∧ m1 ≤ 8 ∧ k1 ≤ kc + 3 * (m1 - rho.2) ∧ n1 ≤ ns + 3665 * (m1 - rho.2) ∧ mX S S1 ∧ CI x0 u tl (rho.1, m1) S1 ∧ True)) 3 3665 (mF H0) := by
  refine r_met (own := RX11) (by decide +kernel) rfl (Nat.le_of_ble_eq_true rfl) ?_
  intro p e s m args below meth c C hr hlk hnm H ls hl hM
  obtain ⟨hx, hb, hml, hown, hts, -, -⟩ := id C
  have hl : lv_has ls 6 [(0, .ref h0), (1, .int i0), (2, .int i1), (3, .int i2)] := hl
  have hI0 := hI
  have hX : mX S S := mX.rf
  have t_m1 : (-1 : Int32).toInt = -1 := by decide
  have t_0 : (0 : Int32).toInt = 0 := by decide
  refine lv_aload_n hx hb dX11_find_0 rfl (lv_at hl 0 rfl) ?_
  refine lv_iload_n hx hb dX11_find_1 rfl (lv_at hl 1 rfl) ?_
  refine lv_iload_n hx hb dX11_find_2 rfl (lv_at hl 2 rfl) ?_
  refine r_V (As := [.int i0, .int i1]) (rest := []) (ci := 11) C hM (c_X11_partOn l D H0 S kc ns h0 i0 i1 hI kh0) i_X11_partOn m_X11_101 kh0 rfl rfl rfl hl.1 rfl (Nat.le_of_ble_eq_true rfl) ⟨by decide, by decide⟩ ⟨by decide, by decide⟩ dX11_find_3 (fun rv4 Sv1 kv2 nv3 H locs pv5 hM => ?_)
  obtain ⟨rfl, rfl, rfl, krv4⟩ := pv5
  refine W.eq (g2 := F0 m 6 ls [va_rf rv4]) rfl ?_
  refine lv_astoreQ (lv' := [(4, va_rf rv4), (0, .ref h0), (1, .int i0), (2, .int i1), (3, .int i2)]) hx hb dX11_find_6 hl (by decide) rfl (fun ls hl => ?_)
  refine lv_aload_n hx hb dX11_find_8 rfl (lv_at hl 1 rfl) ?_
  refine lv_iload_n hx hb dX11_find_9 rfl (lv_at hl 4 rfl) ?_
  refine r_V (As := [.int i2]) (rest := []) (ci := 11) C hM (c_X11_pageOn l D H0 S kc ns h0 i2 hI kh0) i_X11_pageOn m_X11_173 kh0 rfl rfl rfl hl.1 rfl (Nat.le_of_ble_eq_true rfl) ⟨by decide, by decide⟩ ⟨by decide, by decide⟩ dX11_find_10 (fun rv9 Sv6 kv7 nv8 H locs pv10 hM => ?_)
  obtain ⟨rfl, rfl, rfl, krv9⟩ := pv10
  refine W.eq (g2 := F0 m 13 ls [va_rf rv9]) rfl ?_
  refine lv_astoreQ (lv' := [(5, va_rf rv9), (4, va_rf rv4), (0, .ref h0), (1, .int i0), (2, .int i1), (3, .int i2)]) hx hb dX11_find_13 hl (by decide) (by simp [cat_rf, cat_i, cat_l, cat_a, cat_n] <;> first | decide | (repeat' (first | rfl | constructor))) (fun ls hl => ?_)
  refine lv_aloadQ hx hb dX11_find_15 (lv_at hl 1 rfl) ?_
  cases rv4 with
  | none =>
    refine lv_ifnullN (tgt := 25) hx hb dX11_find_17 (by decide) ?_
    refine lv_iconst (v := -1) hx hb dX11_find_25 (by decide) ?_
    refine W.widen (k := 3) (n := 3665) (by first | decide | omega) (by first | decide | omega) ?_
    exact r_retI C hr hlk hM (by first | exact ⟨m9, hm1, hm2, by omega, by omega, hX, hI, trivial⟩ | exact ⟨rho.2, Nat.le_refl _, hm, by omega, by omega, hX, hI, trivial⟩) dX11_find_26
  | some qv11 =>
    have kqv11 : mK S qv11 = 6 := krv4 qv11 rfl
    refine lv_ifnull hx hb dX11_find_17 ?_
    refine lv_aloadQ hx hb dX11_find_20 (lv_at hl 0 rfl) ?_
    cases rv9 with
    | none =>
      refine lv_ifnonnullN hx hb dX11_find_22 ?_
      refine lv_iconst (v := -1) hx hb dX11_find_25 (by decide) ?_
      refine W.widen (k := 3) (n := 3665) (by first | decide | omega) (by first | decide | omega) ?_
      exact r_retI C hr hlk hM (by first | exact ⟨m9, hm1, hm2, by omega, by omega, hX, hI, trivial⟩ | exact ⟨rho.2, Nat.le_refl _, hm, by omega, by omega, hX, hI, trivial⟩) dX11_find_26
    | some qv12 =>
      have kqv12 : mK S qv12 = 5 := krv9 qv12 rfl
      refine lv_ifnonnull (tgt := 27) hx hb dX11_find_22 (by decide) ?_
      refine lv_aload_n hx hb dX11_find_27 rfl (lv_at hl 2 rfl) ?_
      obtain ⟨qv13, eqv13, kqv13, nqv13⟩ := TI.nn (hx := (by simp [xl, x0])) hI.1 (ci := 11) (k := 5) kh0
      refine r_get (ci := 11) (k := 5) (v := .ref qv13) C hM kh0 f_X11_44 (congrArg va_rf eqv13) dX11_find_28 ?_
      refine lv_aload hx hb dX11_find_31 (lv_at hl 1 rfl) ?_
      refine lv_aload hx hb dX11_find_33 (lv_at hl 0 rfl) ?_
      refine lv_aload_n hx hb dX11_find_35 rfl (lv_at hl 2 rfl) ?_
      refine lv_aload hx hb dX11_find_36 (lv_at hl 1 rfl) ?_
      refine lv_aload hx hb dX11_find_38 (lv_at hl 0 rfl) ?_
      refine r_V (As := [.ref qv11, .ref qv12]) (rest := [.ref qv12, .ref qv11, .ref qv13]) (ci := 11) C hM (c_X11_likenessFor l D H0 S kc ns h0 qv11 qv12 hI hu hm kh0 kqv11 kqv12) i_X11_likenessFor m_X11_162 kh0 rfl rfl rfl hl.1 rfl (Nat.le_of_ble_eq_true rfl) ⟨by decide, by decide⟩ ⟨by decide, by decide⟩ dX11_find_40 (fun rv17 Sv14 kv15 nv16 H locs pv18 hM => ?_)
      obtain ⟨m9, hm1, hm2, hk1, hn1, hx9, hI, hr9⟩ := pv18
      have kqv12 : mK Sv14 qv12 = 5 := (hx9).k kqv12
      have kqv11 : mK Sv14 qv11 = 6 := (hx9).k kqv11
      have kh0 : mK Sv14 h0 = 12 := (hx9).k kh0
      have kqv13 : mK Sv14 qv13 = 2 := (hx9).k kqv13
      have hX := hX.trans hx9
      obtain ⟨qv19, rfl, kqv19⟩ := hr9
      refine W.eq (g2 := F0 m 43 ls [.ref qv19, .ref qv12, .ref qv11, .ref qv13]) rfl ?_
      refine lv_aload_n hx hb dX11_find_43 rfl (lv_at hl 2 rfl) ?_
      refine r_get (ci := 11) (k := 12) (v := .int (mI Sv14 1112 h0)) C hM kh0 f_X11_78 rfl dX11_find_44 ?_
      refine lv_topi (fun xv20 exv20 => ?_)
      refine r_VN (As := [.ref qv11, .ref qv12, .ref qv19, .int xv20]) (rest := []) (ci := 1) C hM (c_X1_look l D H0 Sv14 kv15 nv16 qv13 qv11 qv12 qv19 xv20 hI kqv13 kqv11 kqv12 kqv19) i_X1_look m_X11_177 kqv13 rfl rfl rfl hl.1 rfl (Nat.le_of_ble_eq_true rfl) ⟨by decide, by decide⟩ ⟨by decide, by decide⟩ dX11_find_47 (fun xv24 Sv21 kv22 nv23 H locs pv25 hM => ?_)
      obtain ⟨rfl, rfl, hk9, hI, hxv24⟩ := pv25
      have kqv12 : mK Sv21 qv12 = 5 := (congrFun (hk9) qv12).trans kqv12
      have kqv11 : mK Sv21 qv11 = 6 := (congrFun (hk9) qv11).trans kqv11
      have kh0 : mK Sv21 h0 = 12 := (congrFun (hk9) h0).trans kh0
      have hX := hX.trans (mX.of hk9)
      refine W.eq (g2 := F0 m 50 ls [.int xv24]) rfl ?_
      refine W.widen (k := 3) (n := 3665) (by first | decide | omega) (by first | decide | omega) ?_
      exact r_retI C hr hlk hM (by first | exact ⟨m9, hm1, hm2, by omega, by omega, hX, hI, trivial⟩ | exact ⟨rho.2, Nat.le_refl _, hm, by omega, by omega, hX, hI, trivial⟩) dX11_find_50
set_option maxHeartbeats 4000000 in
set_option maxRecDepth 100000 in
theorem c_X11_performRows (l : Launch) (D : gD) (H0 : gB) (S : Mem) (kc ns : Nat) (h0 h1 : Nat) (i0 : Int32) (h2 : Nat) {u : Nat} {tl : Int} {rho : Nat × Nat} (hI : CI x0 u tl rho S) (hrho : rho.1 < 1000000000) (kh0 : mK S h0 = 12) (kh1 : mK S h1 = 4) (kh2 : mK S h2 = 5) : Met l yX11_performRows (wsU yX11_performRows cX11_performRows 6 (some .boolean)) ({ frames := 2, cells := 0, slots := 0, locals := 51 } : Room) (mP D H0 S kc ns [.ref h0, .ref h1, .int i0, .ref h2]) (mQ D H0 gI (fun r S1 k1 n1 => kc = k1 ∧ ns = n1 ∧ mK S1 = mK S ∧ CI x0 u tl (rho.1 + 60, rho.2) S1 ∧ (r = 0 ∨ r = 1))) 0 0 (mF H0) := by
  refine r_met (own := RX11) (by decide +kernel) rfl (Nat.le_of_ble_eq_true rfl) ?_
  intro p e s m args below meth c C hr hlk hnm H ls hl hM
  obtain ⟨hx, hb, hml, hown, hts, -, -⟩ := id C
  have hl : lv_has ls 6 [(0, .ref h0), (1, .ref h1), (2, .int i0), (3, .ref h2)] := hl
  have hI0 := hI
  have hK9 : mK S = mK S := rfl
  have t_0 : (0 : Int32).toInt = 0 := by decide
  have t_1 : (1 : Int32).toInt = 1 := by decide
  have t_60 : (60 : Int32).toInt = 60 := by decide
  refine lv_iconst (v := 0) hx hb dX11_performRows_0 (by decide) ?_
  refine lv_istore (lv' := [(4, .int 0), (0, .ref h0), (1, .ref h1), (2, .int i0), (3, .ref h2)]) hx hb dX11_performRows_1 hl (by decide) rfl (fun ls hl => ?_)
  have hI : CI x0 u tl (rho.1 + (0 : Int32).toInt.toNat, rho.2) S := CI.rhoLe2 hI (by omega)
  have loop3 : ∀ (fu : Nat) (j : Int32) (Sa : Mem) (H : Heap) (locs : List Loc) (ls : Array Slot), (mK Sa = mK S) → (CI x0 u tl (rho.1 + j.toInt.toNat, rho.2) Sa) → (0 ≤ j.toInt ∧ j.toInt ≤ 60) → (60 - j.toInt).toNat < fu → lv_has ls 6 [(0, .ref h0), (1, .ref h1), (2, .int i0), (3, .ref h2), (4, .int j)] → mH D H0 Sa kc ns H locs → W p l e ({ frames := 2, cells := 0, slots := 0, locals := 51 } : Room) s m args below meth c H locs 0 0 (MQ below (mQ D H0 gI (fun r S1 k1 n1 => kc = k1 ∧ ns = n1 ∧ mK S1 = mK S ∧ CI x0 u tl (rho.1 + 60, rho.2) S1 ∧ (r = 0 ∨ r = 1))) args s 0 0 (mF H0)) (F0 m 3 ls []) := by
    intro fu
    induction fu with
    | zero => intro j Sa H locs ls h3_0 h3_1 h3_2 hfu; exact absurd hfu (by omega)
    | succ fu ih3 =>
      intro j Sa H locs ls h3_0 h3_1 h3_2 hfu hl hM
      have hK9 := h3_0
      have hI := h3_1
      have kh0 : mK Sa h0 = 12 := (congrFun (hK9) h0).trans kh0
      have kh1 : mK Sa h1 = 4 := (congrFun (hK9) h1).trans kh1
      have kh2 : mK Sa h2 = 5 := (congrFun (hK9) h2).trans kh2
      refine lv_iload hx hb dX11_performRows_3 (lv_at hl 4 rfl) ?_
      refine lv_bipush (v := 60) hx hb dX11_performRows_5 (by decide) ?_
      refine lv_icmp_ge (tgt := 47) hx hb dX11_performRows_7 (by decide) (fun cv1 => ?_) (fun cv1 => ?_)
      · have tcv1 := leT cv1
        refine lv_iconst (v := 1) hx hb dX11_performRows_47 (by decide) ?_
        exact r_retZ C hr hlk rfl hM (⟨rfl, rfl, hK9, CI.rhoLe2 hI (by omega), by decide⟩) dX11_performRows_48
      · have tcv1 := leF cv1
        refine lv_aload_n hx hb dX11_performRows_10 rfl (lv_at hl 1 rfl) ?_
        refine lv_aload_n hx hb dX11_performRows_11 rfl (lv_at hl 3 rfl) ?_
        refine lv_iload hx hb dX11_performRows_12 (lv_at hl 4 rfl) ?_
        refine r_VN (As := [.ref h2, .int j]) (rest := []) (ci := 3) C hM (c_X3_stepOn l D H0 Sa kc ns h1 h2 j hI kh1 kh2) i_X3_stepOn m_X11_320 kh1 rfl rfl rfl hl.1 rfl (Nat.le_of_ble_eq_true rfl) ⟨by decide, by decide⟩ ⟨by decide, by decide⟩ dX11_performRows_14 (fun rv5 Sv2 kv3 nv4 H locs pv6 hM => ?_)
        obtain ⟨rfl, rfl, rfl, krv5⟩ := pv6
        refine W.eq (g2 := F0 m 17 ls [va_rf rv5]) rfl ?_
        refine lv_astoreQ (lv' := [(5, va_rf rv5), (0, .ref h0), (1, .ref h1), (2, .int i0), (3, .ref h2), (4, .int j)]) hx hb dX11_performRows_17 hl (by decide) rfl (fun ls hl => ?_)
        refine lv_aloadQ hx hb dX11_performRows_19 (lv_at hl 0 rfl) ?_
        cases rv5 with
        | none =>
          refine lv_ifnonnullN hx hb dX11_performRows_21 ?_
          refine lv_iconst (v := 1) hx hb dX11_performRows_24 (by decide) ?_
          exact r_retZ C hr hlk rfl hM (⟨rfl, rfl, hK9, CI.rhoLe2 hI (by omega), by decide⟩) dX11_performRows_25
        | some qv7 =>
          have kqv7 : mK Sa qv7 = 6 := krv5 qv7 rfl
          refine lv_ifnonnull (tgt := 26) hx hb dX11_performRows_21 (by decide) ?_
          refine lv_aload_n hx hb dX11_performRows_26 rfl (lv_at hl 1 rfl) ?_
          obtain ⟨qv8, eqv8, kqv8, nqv8⟩ := TI.nn (hx := (by simp [xl, x0])) hI.1 (ci := 11) (k := 9) kh0
          refine r_get (ci := 11) (k := 9) (v := .ref qv8) C hM kh0 f_X11_67 (congrArg va_rf eqv8) dX11_performRows_27 ?_
          refine lv_aload hx hb dX11_performRows_30 (lv_at hl 0 rfl) ?_
          refine lv_iload_n hx hb dX11_performRows_32 rfl (lv_at hl 3 rfl) ?_
          refine r_VN (As := [.ref qv7, .int i0]) (rest := []) (ci := 7) C hM (c_X7_take l D H0 Sa kc ns qv8 qv7 i0 hI (show rho.1 + j.toInt.toNat < 2000000000 by omega) kqv8 kqv7) i_X7_take m_X11_316 kqv8 rfl rfl rfl hl.1 rfl (Nat.le_of_ble_eq_true rfl) ⟨by decide, by decide⟩ ⟨by decide, by decide⟩ dX11_performRows_33 (fun xv12 Sv9 kv10 nv11 H locs pv13 hM => ?_)
          obtain ⟨rfl, rfl, hk9, hI, hxv12⟩ := pv13
          have kqv7 : mK Sv9 qv7 = 6 := (congrFun (hk9) qv7).trans kqv7
          have kh0 : mK Sv9 h0 = 12 := (congrFun (hk9) h0).trans kh0
          have kh1 : mK Sv9 h1 = 4 := (congrFun (hk9) h1).trans kh1
          have kh2 : mK Sv9 h2 = 5 := (congrFun (hk9) h2).trans kh2
          have hK9 := hk9.trans hK9
          refine W.eq (g2 := F0 m 36 ls [.int xv12]) rfl ?_
          refine lv_if_ne (tgt := 41) hx hb dX11_performRows_36 (by decide) (fun cv14 => ?_) (fun cv14 => ?_)
          · have tcv14 := eqF cv14
            obtain ⟨xv15, exv15⟩ : ∃ y : Int32, y = j + 1 := ⟨_, rfl⟩
            try (have txv15 := addI (a := j) (b := 1) (by omega) (by omega); rw [← exv15] at txv15)
            refine lv_iinc (v := xv15) (lv' := [(4, .int xv15), (5, .ref qv7), (0, .ref h0), (1, .ref h1), (2, .int i0), (3, .ref h2)]) hx hb dX11_performRows_41 hl (k := 5) rfl (by rw [exv15]; rfl) (by decide) rfl (fun ls hl => ?_)
            refine lv_goto (tgt := 3) hx hb dX11_performRows_44 (by decide) ?_
            have hI : CI x0 u tl (rho.1 + xv15.toInt.toNat, rho.2) Sv9 := CI.rhoLe2 hI (by omega)
            exact ih3 xv15 Sv9 _ _ _ (hK9) (hI) (by omega) (by omega) (lv_sub hl [2, 3, 4, 5, 0] rfl) hM
          · have tcv14 := eqT cv14
            refine lv_iconst (v := 0) hx hb dX11_performRows_39 (by decide) ?_
            exact r_retZ C hr hlk rfl hM (⟨rfl, rfl, hK9, CI.rhoLe2 hI (by omega), by decide⟩) dX11_performRows_40
  exact loop3 (((60 - (0 : Int32).toInt).toNat) + 1) 0 S _ _ _ (hK9) (hI) (by omega) (by omega) (lv_sub hl [1, 2, 3, 4, 0] rfl) hM
set_option maxHeartbeats 4000000 in
set_option maxRecDepth 100000 in
theorem c_X11_perform (l : Launch) (D : gD) (H0 : gB) (S : Mem) (kc ns : Nat) (h0 : Nat) (o0 : Option Nat) (h1 : Nat) {u : Nat} {tl : Int} {rho : Nat × Nat} (hI : CI x0 u tl rho S) (hu : u < 2000000000) (hm : rho.2 ≤ 8) (hrho : rho.1 < 1000000000) (kh0 : mK S h0 = 12) (ko0 : ∀ q, o0 = some q → mK S q = 1) (kh1 : mK S h1 = 5) : Met l yX11_perform (wsU yX11_perform cX11_perform 6 (some .boolean)) ({ frames := 6, cells := 3, slots := 3665, locals := 147 } : Room) (mP D H0 S kc ns [.ref h0, va_rf o0, .ref h1]) (mQ D H0 gI (fun r S1 k1 n1 => ∃ m1, rho.2 ≤ m1 ∧ m1 ≤ 8 ∧ k1 ≤ kc + 3 * (m1 - rho.2) ∧ n1 ≤ ns + 3665 * (m1 - rho.2) ∧ mX S S1 ∧ CI x0 u tl (rho.1 + 60, m1) S1 ∧ (r = 0 ∨ r = 1))) 3 3665 (mF H0) := by
  refine r_met (own := RX11) (by decide +kernel) rfl (by simp [lg_sl, cat_rf, cat_i, cat_l, cat_a, cat_n]) ?_
  intro p e s m args below meth c C hr hlk hnm H ls hl hM
  obtain ⟨hx, hb, hml, hown, hts, -, -⟩ := id C
  have hl : lv_has ls 6 [(0, .ref h0), (1, va_rf o0), (2, .ref h1)] := by simpa [lv_args, cat_rf, cat_i, cat_l, cat_a, cat_n] using hl
  have hI0 := hI
  have hX : mX S S := mX.rf
  have t_m2 : (-2 : Int32).toInt = -2 := by decide
  have t_0 : (0 : Int32).toInt = 0 := by decide
  have t_1 : (1 : Int32).toInt = 1 := by decide
  have t_2 : (2 : Int32).toInt = 2 := by decide
  refine lv_aload_nQ hx hb dX11_perform_0 rfl (lv_at hl 1 rfl) ?_
  cases o0 with
  | none =>
    refine lv_ifnonnullN hx hb dX11_perform_1 ?_
    refine lv_iconst (v := 0) hx hb dX11_perform_4 (by decide) ?_
    refine W.widen (k := 3) (n := 3665) (by first | decide | omega) (by first | decide | omega) ?_
    exact r_retZ C hr hlk rfl hM (by first | exact ⟨m9, hm1, hm2, by omega, by omega, hX, CI.rhoLe2 hI (by omega), by decide⟩ | exact ⟨rho.2, Nat.le_refl _, hm, by omega, by omega, hX, CI.rhoLe2 hI (by omega), by decide⟩) dX11_perform_5
  | some qv1 =>
    have kqv1 : mK S qv1 = 1 := ko0 qv1 rfl
    refine lv_ifnonnull (tgt := 6) hx hb dX11_perform_1 (by decide) ?_
    refine lv_aload_n hx hb dX11_perform_6 rfl (lv_at hl 1 rfl) ?_
    refine r_getN (ci := 0) (k := 2) C hM kqv1 f_X11_298 rfl dX11_perform_7 ?_
    obtain ⟨rv2, erv2, krv2⟩ : ∃ r : Option Nat, mR S 2 qv1 = r ∧ ∀ q, r = some q → mK S q = 4 := ⟨_, rfl, TI.opt hI.1 (ci := 0) (k := 2) kqv1⟩
    refine W.eq (g2 := F0 m 10 ls [va_rf rv2]) (by rw [← erv2]; rfl) ?_
    cases rv2 with
    | none =>
      refine lv_ifnullN (tgt := 27) hx hb dX11_perform_10 (by decide) ?_
      refine lv_aload_n hx hb dX11_perform_27 rfl (lv_at hl 0 rfl) ?_
      refine lv_aload_n hx hb dX11_perform_28 rfl (lv_at hl 1 rfl) ?_
      obtain ⟨qv4, eqv4, kqv4, nqv4⟩ := TI.nn (hx := (by simp [xl, x0])) hI.1 (ci := 0) (k := 1) kqv1
      refine r_getN (ci := 0) (k := 1) (v := .ref qv4) C hM kqv1 f_X11_309 (congrArg va_rf eqv4) dX11_perform_29 ?_
      refine lv_aload_n hx hb dX11_perform_32 rfl (lv_at hl 2 rfl) ?_
      refine r_V (As := [.ref qv4, .ref h1]) (rest := []) (ci := 11) C hM (c_X11_likenessFor l D H0 S kc ns h0 qv4 h1 hI hu hm kh0 kqv4 kh1) i_X11_likenessFor m_X11_162 kh0 rfl rfl rfl hl.1 rfl (Nat.le_of_ble_eq_true rfl) ⟨by decide, by decide⟩ ⟨by decide, by decide⟩ dX11_perform_33 (fun rv8 Sv5 kv6 nv7 H locs pv9 hM => ?_)
      obtain ⟨m9, hm1, hm2, hk1, hn1, hx9, hI, hr9⟩ := pv9
      have kh0 : mK Sv5 h0 = 12 := (hx9).k kh0
      have kqv1 : mK Sv5 qv1 = 1 := (hx9).k kqv1
      have kh1 : mK Sv5 h1 = 5 := (hx9).k kh1
      have hX := hX.trans hx9
      obtain ⟨qv10, rfl, kqv10⟩ := hr9
      refine W.eq (g2 := F0 m 36 ls [.ref qv10]) rfl ?_
      refine lv_astore_n (lv' := [(3, .ref qv10), (0, .ref h0), (1, .ref qv1), (2, .ref h1)]) hx hb dX11_perform_36 rfl hl (by decide) rfl (fun ls hl => ?_)
      refine lv_aload_n hx hb dX11_perform_37 rfl (lv_at hl 1 rfl) ?_
      obtain ⟨qv11, eqv11, kqv11, nqv11⟩ := TI.nn (hx := (by simp [xl, x0])) hI.1 (ci := 11) (k := 6) kh0
      refine r_get (ci := 11) (k := 6) (v := .ref qv11) C hM kh0 f_X11_48 (congrArg va_rf eqv11) dX11_perform_38 ?_
      refine lv_aload_n hx hb dX11_perform_41 rfl (lv_at hl 2 rfl) ?_
      obtain ⟨qv12, eqv12, kqv12, nqv12⟩ := TI.nn (hx := (by simp [xl, x0])) hI.1 (ci := 0) (k := 1) kqv1
      refine r_getN (ci := 0) (k := 1) (v := .ref qv12) C hM kqv1 f_X11_309 (congrArg va_rf eqv12) dX11_perform_42 ?_
      refine lv_aload_n hx hb dX11_perform_45 rfl (lv_at hl 3 rfl) ?_
      refine lv_aload_n hx hb dX11_perform_46 rfl (lv_at hl 0 rfl) ?_
      refine lv_aload_n hx hb dX11_perform_47 rfl (lv_at hl 1 rfl) ?_
      refine r_get (ci := 11) (k := 12) (v := .int (mI Sv5 1112 h0)) C hM kh0 f_X11_78 rfl dX11_perform_48 ?_
      refine lv_topi (fun xv13 exv13 => ?_)
      refine r_VN (As := [.ref qv12, .ref h1, .ref qv10, .int xv13]) (rest := []) (ci := 1) C hM (c_X1_look l D H0 Sv5 kv6 nv7 qv11 qv12 h1 qv10 xv13 hI kqv11 kqv12 kh1 kqv10) i_X1_look m_X11_177 kqv11 rfl rfl rfl hl.1 rfl (Nat.le_of_ble_eq_true rfl) ⟨by decide, by decide⟩ ⟨by decide, by decide⟩ dX11_perform_51 (fun xv17 Sv14 kv15 nv16 H locs pv18 hM => ?_)
      obtain ⟨rfl, rfl, hk9, hI, hxv17⟩ := pv18
      have kqv10 : mK Sv14 qv10 = 3 := (congrFun (hk9) qv10).trans kqv10
      have kh0 : mK Sv14 h0 = 12 := (congrFun (hk9) h0).trans kh0
      have kqv1 : mK Sv14 qv1 = 1 := (congrFun (hk9) qv1).trans kqv1
      have kh1 : mK Sv14 h1 = 5 := (congrFun (hk9) h1).trans kh1
      have hX := hX.trans (mX.of hk9)
      refine W.eq (g2 := F0 m 54 ls [.int xv17]) rfl ?_
      refine lv_istore (lv' := [(4, .int xv17), (3, .ref qv10), (0, .ref h0), (1, .ref qv1), (2, .ref h1)]) hx hb dX11_perform_54 hl (by decide) rfl (fun ls hl => ?_)
      refine lv_aload_n hx hb dX11_perform_56 rfl (lv_at hl 2 rfl) ?_
      obtain ⟨qv19, eqv19, kqv19, nqv19⟩ := TI.nn (hx := (by simp [xl, x0])) hI.1 (ci := 11) (k := 6) kh0
      refine r_get (ci := 11) (k := 6) (v := .ref qv19) C hM kh0 f_X11_48 (congrArg va_rf eqv19) dX11_perform_57 ?_
      refine r_getN (ci := 1) (k := 0) C hM kqv19 f_X11_181 rfl dX11_perform_60 ?_
      obtain ⟨rv20, erv20, krv20⟩ : ∃ r : Option Nat, mR Sv14 100 qv19 = r ∧ ∀ q, r = some q → mK Sv14 q = 6 := ⟨_, rfl, TI.opt hI.1 (ci := 1) (k := 0) kqv19⟩
      refine W.eq (g2 := F0 m 63 ls [va_rf rv20]) (by rw [← erv20]; rfl) ?_
      refine lv_astoreQ (lv' := [(5, va_rf rv20), (4, .int xv17), (3, .ref qv10), (0, .ref h0), (1, .ref qv1), (2, .ref h1)]) hx hb dX11_perform_63 hl (by decide) rfl (fun ls hl => ?_)
      refine lv_iload hx hb dX11_perform_65 (lv_at hl 1 rfl) ?_
      refine lv_bipush (v := -2) hx hb dX11_perform_67 (by decide) ?_
      refine lv_icmp_eq (tgt := 77) hx hb dX11_perform_69 (by decide) (fun cv21 => ?_) (fun cv21 => ?_)
      · have tcv21 := eqT cv21
        refine lv_aload_n hx hb dX11_perform_77 rfl (lv_at hl 3 rfl) ?_
        obtain ⟨qv22, eqv22, kqv22, nqv22⟩ := TI.nn (hx := (by simp [xl, x0])) hI.1 (ci := 11) (k := 9) kh0
        refine r_get (ci := 11) (k := 9) (v := .ref qv22) C hM kh0 f_X11_67 (congrArg va_rf eqv22) dX11_perform_78 ?_
        refine lv_iconst (v := 2) hx hb dX11_perform_81 (by decide) ?_
        refine lv_null hx hb dX11_perform_82 ?_
        refine r_VN (As := [.int 2, .null]) (rest := []) (ci := 7) C hM (c_X7_stop l D H0 Sv14 kv6 nv7 qv22 2 none hI kqv22 (fun z h => by cases h)) i_X7_stop m_X11_312 kqv22 rfl rfl rfl hl.1 rfl (Nat.le_of_ble_eq_true rfl) ⟨by decide, by decide⟩ ⟨by decide, by decide⟩ dX11_perform_83 (fun xv26 Sv23 kv24 nv25 H locs pv27 hM => ?_)
        obtain ⟨rfl, rfl, hk9, hI, hxv26⟩ := pv27
        have krv20 : ∀ q, rv20 = some q → mK Sv23 q = 6 := fun q h => (congrFun (hk9) q).trans (krv20 q h)
        have kqv10 : mK Sv23 qv10 = 3 := (congrFun (hk9) qv10).trans kqv10
        have kh0 : mK Sv23 h0 = 12 := (congrFun (hk9) h0).trans kh0
        have kqv1 : mK Sv23 qv1 = 1 := (congrFun (hk9) qv1).trans kqv1
        have kh1 : mK Sv23 h1 = 5 := (congrFun (hk9) h1).trans kh1
        have hX := hX.trans (mX.of hk9)
        refine W.eq (g2 := F0 m 86 ls [.int xv26]) rfl ?_
        have hxv26 : xv26 = 0 ∨ xv26 = 1 := Or.inl hxv26
        refine W.widen (k := 3) (n := 3665) (by first | decide | omega) (by first | decide | omega) ?_
        exact r_retZ C hr hlk (nzb hxv26) hM (by first | exact ⟨m9, hm1, hm2, by omega, by omega, hX, CI.rhoLe2 hI (by omega), hxv26⟩ | exact ⟨rho.2, Nat.le_refl _, hm, by omega, by omega, hX, CI.rhoLe2 hI (by omega), hxv26⟩) dX11_perform_86
      · have tcv21 := eqF cv21
        refine lv_aloadQ hx hb dX11_perform_72 (lv_at hl 0 rfl) ?_
        cases rv20 with
        | none =>
          refine lv_ifnonnullN hx hb dX11_perform_74 ?_
          refine lv_aload_n hx hb dX11_perform_77 rfl (lv_at hl 3 rfl) ?_
          obtain ⟨qv29, eqv29, kqv29, nqv29⟩ := TI.nn (hx := (by simp [xl, x0])) hI.1 (ci := 11) (k := 9) kh0
          refine r_get (ci := 11) (k := 9) (v := .ref qv29) C hM kh0 f_X11_67 (congrArg va_rf eqv29) dX11_perform_78 ?_
          refine lv_iconst (v := 2) hx hb dX11_perform_81 (by decide) ?_
          refine lv_null hx hb dX11_perform_82 ?_
          refine r_VN (As := [.int 2, .null]) (rest := []) (ci := 7) C hM (c_X7_stop l D H0 Sv14 kv6 nv7 qv29 2 none hI kqv29 (fun z h => by cases h)) i_X7_stop m_X11_312 kqv29 rfl rfl rfl hl.1 rfl (Nat.le_of_ble_eq_true rfl) ⟨by decide, by decide⟩ ⟨by decide, by decide⟩ dX11_perform_83 (fun xv33 Sv30 kv31 nv32 H locs pv34 hM => ?_)
          obtain ⟨rfl, rfl, hk9, hI, hxv33⟩ := pv34
          have kqv10 : mK Sv30 qv10 = 3 := (congrFun (hk9) qv10).trans kqv10
          have kh0 : mK Sv30 h0 = 12 := (congrFun (hk9) h0).trans kh0
          have kqv1 : mK Sv30 qv1 = 1 := (congrFun (hk9) qv1).trans kqv1
          have kh1 : mK Sv30 h1 = 5 := (congrFun (hk9) h1).trans kh1
          have hX := hX.trans (mX.of hk9)
          refine W.eq (g2 := F0 m 86 ls [.int xv33]) rfl ?_
          have hxv33 : xv33 = 0 ∨ xv33 = 1 := Or.inl hxv33
          refine W.widen (k := 3) (n := 3665) (by first | decide | omega) (by first | decide | omega) ?_
          exact r_retZ C hr hlk (nzb hxv33) hM (by first | exact ⟨m9, hm1, hm2, by omega, by omega, hX, CI.rhoLe2 hI (by omega), hxv33⟩ | exact ⟨rho.2, Nat.le_refl _, hm, by omega, by omega, hX, CI.rhoLe2 hI (by omega), hxv33⟩) dX11_perform_86
        | some qv28 =>
          have kqv28 : mK Sv14 qv28 = 6 := krv20 qv28 rfl
          refine lv_ifnonnull (tgt := 87) hx hb dX11_perform_74 (by decide) ?_
          refine lv_iload hx hb dX11_perform_87 (lv_at hl 1 rfl) ?_
          refine lv_if_ne (tgt := 103) hx hb dX11_perform_89 (by decide) (fun cv35 => ?_) (fun cv35 => ?_)
          · have tcv35 := eqF cv35
            refine lv_aload_n hx hb dX11_perform_103 rfl (lv_at hl 3 rfl) ?_
            obtain ⟨qv36, eqv36, kqv36, nqv36⟩ := TI.nn (hx := (by simp [xl, x0])) hI.1 (ci := 11) (k := 9) kh0
            refine r_get (ci := 11) (k := 9) (v := .ref qv36) C hM kh0 f_X11_67 (congrArg va_rf eqv36) dX11_perform_104 ?_
            refine lv_aload hx hb dX11_perform_107 (lv_at hl 0 rfl) ?_
            refine lv_aload_n hx hb dX11_perform_109 rfl (lv_at hl 4 rfl) ?_
            refine r_getN (ci := 0) (k := 0) (v := .int (mI Sv14 0 qv1)) C hM kqv1 f_X11_302 rfl dX11_perform_110 ?_
            refine lv_topi (fun xv37 exv37 => ?_)
            refine r_VN (As := [.ref qv28, .int xv37]) (rest := []) (ci := 7) C hM (c_X7_take l D H0 Sv14 kv6 nv7 qv36 qv28 xv37 hI (show rho.1 < 2000000000 by omega) kqv36 kqv28) i_X7_take m_X11_316 kqv36 rfl rfl rfl hl.1 rfl (Nat.le_of_ble_eq_true rfl) ⟨by decide, by decide⟩ ⟨by decide, by decide⟩ dX11_perform_113 (fun xv41 Sv38 kv39 nv40 H locs pv42 hM => ?_)
            obtain ⟨rfl, rfl, hk9, hI, hxv41⟩ := pv42
            have kqv28 : mK Sv38 qv28 = 6 := (congrFun (hk9) qv28).trans kqv28
            have kqv10 : mK Sv38 qv10 = 3 := (congrFun (hk9) qv10).trans kqv10
            have kh0 : mK Sv38 h0 = 12 := (congrFun (hk9) h0).trans kh0
            have kqv1 : mK Sv38 qv1 = 1 := (congrFun (hk9) qv1).trans kqv1
            have kh1 : mK Sv38 h1 = 5 := (congrFun (hk9) h1).trans kh1
            have hX := hX.trans (mX.of hk9)
            refine W.eq (g2 := F0 m 116 ls [.int xv41]) rfl ?_
            refine W.widen (k := 3) (n := 3665) (by first | decide | omega) (by first | decide | omega) ?_
            exact r_retZ C hr hlk (nzb hxv41) hM (by first | exact ⟨m9, hm1, hm2, by omega, by omega, hX, CI.rhoLe2 hI (by omega), hxv41⟩ | exact ⟨rho.2, Nat.le_refl _, hm, by omega, by omega, hX, CI.rhoLe2 hI (by omega), hxv41⟩) dX11_perform_116
          · have tcv35 := eqT cv35
            refine lv_aload_n hx hb dX11_perform_92 rfl (lv_at hl 3 rfl) ?_
            obtain ⟨qv43, eqv43, kqv43, nqv43⟩ := TI.nn (hx := (by simp [xl, x0])) hI.1 (ci := 11) (k := 9) kh0
            refine r_get (ci := 11) (k := 9) (v := .ref qv43) C hM kh0 f_X11_67 (congrArg va_rf eqv43) dX11_perform_93 ?_
            refine lv_iconst (v := 1) hx hb dX11_perform_96 (by decide) ?_
            refine lv_aload hx hb dX11_perform_97 (lv_at hl 0 rfl) ?_
            refine r_VN (As := [.int 1, .ref qv28]) (rest := []) (ci := 7) C hM (c_X7_stop l D H0 Sv14 kv6 nv7 qv43 1 (some qv28) hI kqv43 (fun z h => by cases h; exact kqv28)) i_X7_stop m_X11_312 kqv43 rfl rfl rfl hl.1 rfl (Nat.le_of_ble_eq_true rfl) ⟨by decide, by decide⟩ ⟨by decide, by decide⟩ dX11_perform_99 (fun xv47 Sv44 kv45 nv46 H locs pv48 hM => ?_)
            obtain ⟨rfl, rfl, hk9, hI, hxv47⟩ := pv48
            have kqv28 : mK Sv44 qv28 = 6 := (congrFun (hk9) qv28).trans kqv28
            have kqv10 : mK Sv44 qv10 = 3 := (congrFun (hk9) qv10).trans kqv10
            have kh0 : mK Sv44 h0 = 12 := (congrFun (hk9) h0).trans kh0
            have kqv1 : mK Sv44 qv1 = 1 := (congrFun (hk9) qv1).trans kqv1
            have kh1 : mK Sv44 h1 = 5 := (congrFun (hk9) h1).trans kh1
            have hX := hX.trans (mX.of hk9)
            refine W.eq (g2 := F0 m 102 ls [.int xv47]) rfl ?_
            have hxv47 : xv47 = 0 ∨ xv47 = 1 := Or.inl hxv47
            refine W.widen (k := 3) (n := 3665) (by first | decide | omega) (by first | decide | omega) ?_
            exact r_retZ C hr hlk (nzb hxv47) hM (by first | exact ⟨m9, hm1, hm2, by omega, by omega, hX, CI.rhoLe2 hI (by omega), hxv47⟩ | exact ⟨rho.2, Nat.le_refl _, hm, by omega, by omega, hX, CI.rhoLe2 hI (by omega), hxv47⟩) dX11_perform_102
    | some qv3 =>
      have kqv3 : mK S qv3 = 4 := krv2 qv3 rfl
      refine lv_ifnull hx hb dX11_perform_10 ?_
      refine lv_aload_n hx hb dX11_perform_13 rfl (lv_at hl 0 rfl) ?_
      refine lv_aload_n hx hb dX11_perform_14 rfl (lv_at hl 1 rfl) ?_
      refine r_getN (ci := 0) (k := 2) (v := .ref qv3) C hM kqv1 f_X11_298 (congrArg va_rf (erv2)) dX11_perform_15 ?_
      refine lv_aload_n hx hb dX11_perform_18 rfl (lv_at hl 1 rfl) ?_
      refine r_getN (ci := 0) (k := 0) (v := .int (mI S 0 qv1)) C hM kqv1 f_X11_302 rfl dX11_perform_19 ?_
      refine lv_topi (fun xv49 exv49 => ?_)
      refine lv_aload_n hx hb dX11_perform_22 rfl (lv_at hl 2 rfl) ?_
      refine r_V (As := [.ref qv3, .int xv49, .ref h1]) (rest := []) (ci := 11) C hM (c_X11_performRows l D H0 S kc ns h0 qv3 xv49 h1 hI hrho kh0 kqv3 kh1) i_X11_performRows m_X11_305 kh0 rfl rfl rfl hl.1 rfl (Nat.le_of_ble_eq_true rfl) ⟨by decide, by decide⟩ ⟨by decide, by decide⟩ dX11_perform_23 (fun xv53 Sv50 kv51 nv52 H locs pv54 hM => ?_)
      obtain ⟨rfl, rfl, hk9, hI, hxv53⟩ := pv54
      have kh0 : mK Sv50 h0 = 12 := (congrFun (hk9) h0).trans kh0
      have kqv1 : mK Sv50 qv1 = 1 := (congrFun (hk9) qv1).trans kqv1
      have kh1 : mK Sv50 h1 = 5 := (congrFun (hk9) h1).trans kh1
      have hX := hX.trans (mX.of hk9)
      refine W.eq (g2 := F0 m 26 ls [.int xv53]) rfl ?_
      refine W.widen (k := 3) (n := 3665) (by first | decide | omega) (by first | decide | omega) ?_
      exact r_retZ C hr hlk (nzb hxv53) hM (by first | exact ⟨m9, hm1, hm2, by omega, by omega, hX, CI.rhoLe2 hI (by omega), hxv53⟩ | exact ⟨rho.2, Nat.le_refl _, hm, by omega, by omega, hX, CI.rhoLe2 hI (by omega), hxv53⟩) dX11_perform_26
set_option maxHeartbeats 4000000 in
set_option maxRecDepth 100000 in
theorem c_X11_run (l : Launch) (D : gD) (H0 : gB) (S : Mem) (kc ns : Nat) (h0 : Nat) (i0 : Int32) {u : Nat} {tl : Int} {rho : Nat × Nat} (hI : CI x0 u tl rho S) (hu : u < 2000000000) (hm : rho.2 ≤ 8) (hrho : rho.1 < 900000000) (kh0 : mK S h0 = 12) : Met l yX11_run (wsU yX11_run cX11_run 4 (some .int)) ({ frames := 7, cells := 27, slots := 32985, locals := 172 } : Room) (mP D H0 S kc ns [.ref h0, .int i0]) (mQ D H0 gI (fun r S1 k1 n1 => ∃ m1, rho.2 ≤ m1 ∧ m1 ≤ 8 ∧ k1 ≤ kc + 3 * (m1 - rho.2) ∧ n1 ≤ ns + 3665 * (m1 - rho.2) ∧ mX S S1 ∧ CI x0 u tl (rho.1 + 1200, m1) S1 ∧ True)) 27 32985 (mF H0) := by
  refine r_metH (own := RX11) (by decide +kernel) rfl (Nat.le_of_ble_eq_true rfl) ?_
  intro p e s m args below meth c C hr hlk hnm hM0 H ls hl hM
  obtain ⟨hx, hb, hml, hown, hts, -, -⟩ := id C
  have hl : lv_has ls 4 [(0, .ref h0), (1, .int i0)] := hl
  have hI0 := hI
  have hX : mX S S := mX.rf
  have t_m1 : (-1 : Int32).toInt = -1 := by decide
  have t_0 : (0 : Int32).toInt = 0 := by decide
  have t_1 : (1 : Int32).toInt = 1 := by decide
  refine lv_aload_n hx hb dX11_run_0 rfl (lv_at hl 0 rfl) ?_
  refine lv_iload_n hx hb dX11_run_1 rfl (lv_at hl 1 rfl) ?_
  refine r_V (As := [.int i0]) (rest := []) (ci := 11) C hM (c_X11_pageOn l D H0 S kc ns h0 i0 hI kh0) i_X11_pageOn m_X11_173 kh0 rfl rfl rfl hl.1 rfl (Nat.le_of_ble_eq_true rfl) ⟨by decide, by decide⟩ ⟨by decide, by decide⟩ dX11_run_2 (fun rv4 Sv1 kv2 nv3 H locs pv5 hM => ?_)
  obtain ⟨rfl, rfl, rfl, krv4⟩ := pv5
  refine W.eq (g2 := F0 m 5 ls [va_rf rv4]) rfl ?_
  refine lv_astore_nQ (lv' := [(2, va_rf rv4), (0, .ref h0), (1, .int i0)]) hx hb dX11_run_5 rfl hl (by decide) rfl (fun ls hl => ?_)
  refine lv_aload_nQ hx hb dX11_run_6 rfl (lv_at hl 0 rfl) ?_
  cases rv4 with
  | none =>
    refine lv_ifnonnullN hx hb dX11_run_7 ?_
    refine lv_iconst (v := -1) hx hb dX11_run_10 (by decide) ?_
    refine W.widen (k := 27) (n := 32985) (by first | decide | omega) (by first | decide | omega) ?_
    exact r_retI C hr hlk hM (by first | exact ⟨m9, by omega, hm4, by omega, by omega, hX, CI.rhoLe2 hI (by omega), trivial⟩ | exact ⟨m1, hm1, hm2, hk1, hn1, hX, CI.rhoLe2 hI (by omega), trivial⟩ | exact ⟨rho.2, Nat.le_refl _, hm, by omega, by omega, hX, CI.rhoLe2 hI (by omega), trivial⟩) dX11_run_11
  | some qv6 =>
    have kqv6 : mK S qv6 = 5 := krv4 qv6 rfl
    refine lv_ifnonnull (tgt := 12) hx hb dX11_run_7 (by decide) ?_
    refine lv_aload_n hx hb dX11_run_12 rfl (lv_at hl 1 rfl) ?_
    obtain ⟨qv7, eqv7, kqv7, nqv7⟩ := TI.nn (hx := (by simp [xl, x0])) hI.1 (ci := 11) (k := 9) kh0
    refine r_get (ci := 11) (k := 9) (v := .ref qv7) C hM kh0 f_X11_67 (congrArg va_rf eqv7) dX11_run_13 ?_
    refine r_VN (As := []) (rest := []) (ci := 7) C hM (c_X7_begin l D H0 S kc ns qv7 hI kqv7) i_X7_begin m_X11_245 kqv7 rfl rfl rfl hl.1 rfl (Nat.le_of_ble_eq_true rfl) ⟨by decide, by decide⟩ ⟨by decide, by decide⟩ dX11_run_16 (fun uv11 Sv8 kv9 nv10 H locs pv12 hM => ?_)
    obtain ⟨rfl, rfl, hk9, hI, huv11⟩ := pv12
    have kqv6 : mK Sv8 qv6 = 5 := (congrFun (hk9) qv6).trans kqv6
    have kh0 : mK Sv8 h0 = 12 := (congrFun (hk9) h0).trans kh0
    have hX := hX.trans (mX.of hk9)
    refine W.eq (g2 := F0 m 19 ls []) rfl ?_
    refine lv_iconst (v := 0) hx hb dX11_run_19 (by decide) ?_
    refine lv_istore_n (lv' := [(3, .int 0), (2, .ref qv6), (0, .ref h0), (1, .int i0)]) hx hb dX11_run_20 rfl hl (by decide) rfl (fun ls hl => ?_)
    refine W.widen (k := 24) (n := 29320) (by decide) (by decide) ?_
    have loop21 : ∀ (fu : Nat) (j : Int32) (Sa : Mem) (H : Heap) (locs : List Loc) (kz nz : Nat) (ls : Array Slot), (mX S Sa) → (∃ m1, rho.2 ≤ m1 ∧ m1 ≤ 8 ∧ kz ≤ kc + 3 * (m1 - rho.2) ∧ nz ≤ ns + 3665 * (m1 - rho.2) ∧ CI x0 u tl (rho.1 + 60 * j.toInt.toNat, m1) Sa) → (0 ≤ j.toInt ∧ j.toInt ≤ 20) → (mK Sa qv6 = 5) → (mK Sa h0 = 12) → (20 - j.toInt).toNat < fu → lv_has ls 4 [(0, .ref h0), (1, .int i0), (2, .ref qv6), (3, .int j)] → mH D H0 Sa kz nz H locs → W p l e ({ frames := 7, cells := 27, slots := 32985, locals := 172 } : Room) s m args below meth c H locs 24 29320 (MQ below (mQ D H0 gI (fun r S1 k1 n1 => ∃ m1, rho.2 ≤ m1 ∧ m1 ≤ 8 ∧ k1 ≤ kc + 3 * (m1 - rho.2) ∧ n1 ≤ ns + 3665 * (m1 - rho.2) ∧ mX S S1 ∧ CI x0 u tl (rho.1 + 1200, m1) S1 ∧ True)) args s 27 32985 (mF H0)) (F0 m 21 ls []) := by
      intro fu
      induction fu with
      | zero => intro j Sa H locs kz nz ls h21_0 h21_1 h21_2 h21_3 h21_4 hfu; exact absurd hfu (by omega)
      | succ fu ih21 =>
        intro j Sa H locs kz nz ls h21_0 h21_1 h21_2 h21_3 h21_4 hfu hl hM
        have hX := h21_0
        have hI := h21_1
        have kqv6 := h21_3
        have kh0 := h21_4
        obtain ⟨m1, hm1, hm2, hk1, hn1, hI⟩ := hI
        refine lv_iload_n hx hb dX11_run_21 rfl (lv_at hl 3 rfl) ?_
        refine lv_aload_n hx hb dX11_run_22 rfl (lv_at hl 0 rfl) ?_
        refine r_get (ci := 11) (k := 10) (v := .int (mI Sa 1110 h0)) C hM kh0 f_X11_71 rfl dX11_run_23 ?_
        refine lv_topi (fun xv13 exv13 => ?_)
        have fxv13 := NI.g1110 hI.2 kh0 exv13
        refine lv_icmp_ge (tgt := 49) hx hb dX11_run_26 (by decide) (fun cv14 => ?_) (fun cv14 => ?_)
        · have tcv14 := leT cv14
          refine lv_iload_n hx hb dX11_run_49 rfl (lv_at hl 3 rfl) ?_
          refine W.widen (k := 27) (n := 32985) (by first | decide | omega) (by first | decide | omega) ?_
          exact r_retI C hr hlk hM (by first | exact ⟨m9, by omega, hm4, by omega, by omega, hX, CI.rhoLe2 hI (by omega), trivial⟩ | exact ⟨m1, hm1, hm2, hk1, hn1, hX, CI.rhoLe2 hI (by omega), trivial⟩ | exact ⟨rho.2, Nat.le_refl _, hm, by omega, by omega, hX, CI.rhoLe2 hI (by omega), trivial⟩) dX11_run_50
        · have tcv14 := leF cv14
          refine lv_aload_n hx hb dX11_run_29 rfl (lv_at hl 0 rfl) ?_
          refine lv_aload_n hx hb dX11_run_30 rfl (lv_at hl 0 rfl) ?_
          obtain ⟨qv15, eqv15, kqv15, nqv15⟩ := TI.nn (hx := (by simp [xl, x0])) hI.1 (ci := 11) (k := 8) kh0
          refine r_get (ci := 11) (k := 8) (v := .ref qv15) C hM kh0 f_X11_60 (congrArg va_rf eqv15) dX11_run_31 ?_
          refine lv_iload_n hx hb dX11_run_34 rfl (lv_at hl 3 rfl) ?_
          refine r_aald (t := 3) C hM kqv15 rfl (by decide) (inI (by omega) (by rw [nqv15 (by decide)]; show _ < (20 : Int); omega)) dX11_run_35 ?_
          obtain ⟨rv16, erv16, krv16⟩ : ∃ r : Option Nat, aR Sa qv15 j.toNatClampNeg = r ∧ ∀ q, r = some q → mK Sa q = 1 := ⟨_, rfl, TI.arr hI.1 (t := 3) kqv15⟩
          refine W.eq (g2 := F0 m 36 ls [va_rf rv16, .ref h0]) (by rw [← erv16]) ?_
          refine lv_aload_n hx hb dX11_run_36 rfl (lv_at hl 2 rfl) ?_
          refine r_V (As := [va_rf rv16, .ref qv6]) (rest := []) (ci := 11) C hM (c_X11_perform l D H0 Sa kz nz h0 rv16 qv6 hI hu hm2 (show rho.1 + 60 * j.toInt.toNat < 1000000000 by omega) kh0 (krv16) kqv6) i_X11_perform m_X11_248 kh0 rfl rfl rfl hl.1 rfl (Nat.le_of_ble_eq_true rfl) ⟨by decide, by decide⟩ ⟨by decide, by decide⟩ dX11_run_37 (fun xv20 Sv17 kv18 nv19 H locs pv21 hM => ?_)
          obtain ⟨m9, hm3, hm4, hk3, hn3, hx9, hI, hxv20⟩ := pv21
          have kh0 : mK Sv17 h0 = 12 := (hx9).k kh0
          have kqv6 : mK Sv17 qv6 = 5 := (hx9).k kqv6
          have hX := hX.trans hx9
          refine W.eq (g2 := F0 m 40 ls [.int xv20]) rfl ?_
          refine lv_if_eq (tgt := 49) hx hb dX11_run_40 (by decide) (fun cv22 => ?_) (fun cv22 => ?_)
          · have tcv22 := eqT cv22
            refine lv_iload_n hx hb dX11_run_49 rfl (lv_at hl 3 rfl) ?_
            refine W.widen (k := 27) (n := 32985) (by first | decide | omega) (by first | decide | omega) ?_
            exact r_retI C hr hlk hM (by first | exact ⟨m9, by omega, hm4, by omega, by omega, hX, CI.rhoLe2 hI (by omega), trivial⟩ | exact ⟨m1, hm1, hm2, hk1, hn1, hX, CI.rhoLe2 hI (by omega), trivial⟩ | exact ⟨rho.2, Nat.le_refl _, hm, by omega, by omega, hX, CI.rhoLe2 hI (by omega), trivial⟩) dX11_run_50
          · have tcv22 := eqF cv22
            obtain ⟨xv23, exv23⟩ : ∃ y : Int32, y = j + 1 := ⟨_, rfl⟩
            try (have txv23 := addI (a := j) (b := 1) (by omega) (by omega); rw [← exv23] at txv23)
            refine lv_iinc (v := xv23) (lv' := [(3, .int xv23), (0, .ref h0), (1, .int i0), (2, .ref qv6)]) hx hb dX11_run_43 hl (k := 3) rfl (by rw [exv23]; rfl) (by decide) rfl (fun ls hl => ?_)
            refine lv_goto (tgt := 21) hx hb dX11_run_46 (by decide) ?_
            refine r_tight hM hM0 (k := 24) (n := 29320) (by omega) (by omega) ?_
            exact ih21 xv23 Sv17 _ _ _ _ _ (hX) (⟨m9, by omega, hm4, by omega, by omega, CI.rhoLe2 hI (by omega)⟩) (by omega) (kqv6) (kh0) (by omega) (lv_sub hl [1, 2, 3, 0] rfl) hM
    exact loop21 (((20 - (0 : Int32).toInt).toNat) + 1) 0 Sv8 _ _ _ _ _ (hX) (⟨rho.2, Nat.le_refl _, hm, by omega, by omega, CI.rhoLe2 hI (by omega)⟩) (by omega) (kqv6) (kh0) (by omega) (lv_sub hl [2, 3, 1, 0] rfl) hM
