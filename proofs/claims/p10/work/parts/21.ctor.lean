set_option maxHeartbeats 4000000 in
set_option maxRecDepth 100000 in
theorem c_X11_init (l : Launch) (D : gD) (H0 : gB) (S : Mem) (kc ns : Nat) (h0 : Nat) {u : Nat} {tl : Int} {rho : Nat × Nat} (hI : CI (xl x0 h0 [1100, 1101, 1102, 1103, 1104, 1105, 1106, 1107, 1108, 1109]) u tl rho S) (kh0 : mK S h0 = 12) (htl : tl = 0) (hno : ∀ b, mK S b ≠ 10) (hr9 : 8 < rho.2) : Met l yX11_init (wsU yX11_init cX11_init 1 none) ({ frames := 3, cells := 15, slots := 5689, locals := 62 } : Room) (mP D H0 S kc ns [.ref h0]) (mQ D H0 gV (fun r S1 k1 n1 => kc + 15 = k1 ∧ ns + 5689 = n1 ∧ mX S S1 ∧ CI x0 u tl (rho.1, 0) S1)) 15 5689 (mF H0) := by
  refine r_met (own := RX11) (by decide +kernel) rfl (Nat.le_of_ble_eq_true rfl) ?_
  intro p e s m args below meth c C hr hlk hnm H ls hl hM
  obtain ⟨hx, hb, hml, hown, hts, -, -⟩ := id C
  have hl : lv_has ls 1 [(0, .ref h0)] := hl
  have hI0 := hI
  have hX : mX S S := mX.rf
  have t_0 : (0 : Int32).toInt = 0 := by decide
  have t_1 : (1 : Int32).toInt = 1 := by decide
  have t_4 : (4 : Int32).toInt = 4 := by decide
  have t_8 : (8 : Int32).toInt = 8 := by decide
  have t_20 : (20 : Int32).toInt = 20 := by decide
  have t_3721 : (3721 : Int32).toInt = 3721 := by decide
  refine lv_aload_n hx hb dX11_init_0 rfl (lv_at hl 0 rfl) ?_
  refine W.objInit hx hb hown (hts _ m_X11_1) (hts _ oi_inst) (hts _ oi_code) rfl (by rw [hml]; exact hl.1) rfl dX11_init_1 (Nat.le_of_ble_eq_true rfl) (Nat.le_of_ble_eq_true rfl) ?_
  refine W.eq (g2 := F0 m 4 ls []) rfl ?_
  refine lv_aload_n hx hb dX11_init_4 rfl (lv_at hl 0 rfl) ?_
  refine r_new (ci := 9) C hM rfl k_X11_7 in_X9 ini_X9 (by decide) (by decide) dX11_init_5 (fun qv1 H zqv1 hM => ?_)
  have hM : mH D H0 (nO S qv1 9) (kc + 1) (ns + 2) H [] := hM
  have kh0 : mK (nO S qv1 9) h0 = 12 := (mX.O (S := S) (a := qv1) (ci := 9) zqv1).k kh0
  have kqv1 : mK (nO S qv1 9) qv1 = 10 := kO
  have hX := hX.trans (mX.O (ci := 9) zqv1)
  have hI := CI.tape hI zqv1 hno htl
  have hI : CI (xl (xl x0 h0 [1100, 1101, 1102, 1103, 1104, 1105, 1106, 1107, 1108, 1109]) qv1 [900]) u tl rho (nO S qv1 9) := CI.todo (ci := 9) hI kqv1 (by decide)
  refine lv_dup hx hb dX11_init_8 rfl ?_
  refine r_IN (As := []) (rest := [.ref qv1, .ref h0]) C hM (c_X9_init l D H0 (nO S qv1 9) (kc + 1) (ns + 2) qv1 hI kqv1 htl) i_X9_init m_X11_9 rfl hl.1 rfl (Nat.le_of_ble_eq_true rfl) ⟨by decide, by decide⟩ ⟨by decide, by decide⟩ dX11_init_9 (fun uv5 Sv2 kv3 nv4 H locs pv6 hM => ?_)
  obtain ⟨rfl, rfl, hx9, hI⟩ := pv6
  have kh0 : mK Sv2 h0 = 12 := (hx9).k kh0
  have kqv1 : mK Sv2 qv1 = 10 := (hx9).k kqv1
  have hX := hX.trans hx9
  refine W.eq (g2 := F0 m 12 ls [.ref qv1, .ref h0]) rfl ?_
  refine r_putF C hM kh0 f_X11_10 (fun r h => by cases h; exact ⟨rfl, rfl⟩) hnm rfl rfl (mPut.Rf (ci := 11) (k := 0) (x := (some qv1)) rfl) dX11_init_12 (fun H locs hM => ?_)
  have hM : mH D H0 (pR Sv2 1100 h0 (some qv1)) ((kc + 1) + 1) ((ns + 2) + 1600) H locs := hM
  have hI : CI (xl x0 h0 [1101, 1102, 1103, 1104, 1105, 1106, 1107, 1108, 1109]) u tl rho (pR Sv2 1100 h0 (some qv1)) := CI.fill (ci := 11) (k := 0) hI kh0 kqv1 (fun h => absurd rfl h) (by decide) (by decide) (by decide) (by decide)
  refine lv_aload_n hx hb dX11_init_15 rfl (lv_at hl 0 rfl) ?_
  refine r_new (ci := 6) C hM rfl k_X11_16 in_X6 ini_X6 (by decide) (by decide) dX11_init_16 (fun qv7 H zqv7 hM => ?_)
  have hM : mH D H0 (nO (pR Sv2 1100 h0 (some qv1)) qv7 6) (((kc + 1) + 1) + 1) (((ns + 2) + 1600) + 6) H locs := hM
  have kh0 : mK (nO (pR Sv2 1100 h0 (some qv1)) qv7 6) h0 = 12 := (mX.O (S := (pR Sv2 1100 h0 (some qv1))) (a := qv7) (ci := 6) zqv7).k kh0
  have kqv7 : mK (nO (pR Sv2 1100 h0 (some qv1)) qv7 6) qv7 = 7 := kO
  have hX := hX.trans (mX.O (ci := 6) zqv7)
  have hI := CI.newO (ci := 6) hI zqv7 (by decide) (by decide)
  have hI : CI (xl (xl x0 h0 [1101, 1102, 1103, 1104, 1105, 1106, 1107, 1108, 1109]) qv7 [600]) u tl rho (nO (pR Sv2 1100 h0 (some qv1)) qv7 6) := CI.todo (ci := 6) hI kqv7 (by decide)
  refine lv_dup hx hb dX11_init_19 rfl ?_
  refine lv_aload_n hx hb dX11_init_20 rfl (lv_at hl 0 rfl) ?_
  obtain ⟨qv8, eqv8, kqv8, nqv8⟩ := TI.nn (hx := (by simp [xl, x0])) hI.1 (ci := 11) (k := 0) kh0
  refine r_get (ci := 11) (k := 0) (v := .ref qv8) C hM kh0 f_X11_10 (congrArg va_rf eqv8) dX11_init_21 ?_
  refine r_IN (As := [.ref qv8]) (rest := [.ref qv7, .ref h0]) C hM (c_X6_init l D H0 (nO (pR Sv2 1100 h0 (some qv1)) qv7 6) (((kc + 1) + 1) + 1) (((ns + 2) + 1600) + 6) qv7 qv8 hI kqv7 kqv8) i_X6_init m_X11_18 rfl hl.1 rfl (Nat.le_of_ble_eq_true rfl) ⟨by decide, by decide⟩ ⟨by decide, by decide⟩ dX11_init_24 (fun uv12 Sv9 kv10 nv11 H locs pv13 hM => ?_)
  obtain ⟨rfl, rfl, hx9, hI⟩ := pv13
  have kh0 : mK Sv9 h0 = 12 := (hx9).k kh0
  have kqv7 : mK Sv9 qv7 = 7 := (hx9).k kqv7
  have hX := hX.trans hx9
  refine W.eq (g2 := F0 m 27 ls [.ref qv7, .ref h0]) rfl ?_
  refine r_putF C hM kh0 f_X11_21 (fun r h => by cases h; exact ⟨rfl, rfl⟩) hnm rfl rfl (mPut.Rf (ci := 11) (k := 1) (x := (some qv7)) rfl) dX11_init_27 (fun H locs hM => ?_)
  have hM : mH D H0 (pR Sv9 1101 h0 (some qv7)) ((((kc + 1) + 1) + 1) + 1) ((((ns + 2) + 1600) + 6) + 8) H locs := hM
  have hI : CI (xl x0 h0 [1102, 1103, 1104, 1105, 1106, 1107, 1108, 1109]) u tl rho (pR Sv9 1101 h0 (some qv7)) := CI.fill (ci := 11) (k := 1) hI kh0 kqv7 (fun h => absurd rfl h) (by decide) (by decide) (by decide) (by decide)
  refine lv_aload_n hx hb dX11_init_30 rfl (lv_at hl 0 rfl) ?_
  refine lv_iconst (v := 4) hx hb dX11_init_31 (by decide) ?_
  refine r_newq (t := 1) (N' := 4) C hM (by decide) rfl k_X11_25 C.2.2.2.2.2.1.2.2.1 (by decide) (by decide) (by decide) (by decide) (by decide) dX11_init_32 (fun qv14 H zqv14 hM => ?_)
  have hM : mH D H0 (nA (pR Sv9 1101 h0 (some qv7)) qv14 5 4) (((((kc + 1) + 1) + 1) + 1) + 1) (((((ns + 2) + 1600) + 6) + 8) + 4) H locs := hM
  have kh0 : mK (nA (pR Sv9 1101 h0 (some qv7)) qv14 5 4) h0 = 12 := (mX.A (S := (pR Sv9 1101 h0 (some qv7))) (a := qv14) (t := 5) (n := 4) zqv14).k kh0
  have kqv14 : mK (nA (pR Sv9 1101 h0 (some qv7)) qv14 5 4) qv14 = 26 := kA
  have nqv14 : 4 ≠ 0 → mN (nA (pR Sv9 1101 h0 (some qv7)) qv14 5 4) qv14 = 4 := fun _ => nAn
  have hX := hX.trans (mX.A (t := 5) (n := 4) zqv14)
  have hI := CI.newA (t := 5) (n := 4) hI zqv14 (by decide)
  refine r_putF C hM kh0 f_X11_27 (fun r h => by cases h; exact ⟨rfl, rfl⟩) hnm rfl rfl (mPut.Rf (ci := 11) (k := 2) (x := (some qv14)) rfl) dX11_init_35 (fun H locs hM => ?_)
  have hM : mH D H0 (pR (nA (pR Sv9 1101 h0 (some qv7)) qv14 5 4) 1102 h0 (some qv14)) (((((kc + 1) + 1) + 1) + 1) + 1) (((((ns + 2) + 1600) + 6) + 8) + 4) H locs := hM
  have hI : CI (xl x0 h0 [1103, 1104, 1105, 1106, 1107, 1108, 1109]) u tl rho (pR (nA (pR Sv9 1101 h0 (some qv7)) qv14 5 4) 1102 h0 (some qv14)) := CI.fill (ci := 11) (k := 2) hI kh0 kqv14 nqv14 (by decide) (by decide) (by decide) (by decide)
  refine lv_aload_n hx hb dX11_init_38 rfl (lv_at hl 0 rfl) ?_
  refine lv_bipush (v := 8) hx hb dX11_init_39 (by decide) ?_
  refine r_newq (t := 2) (N' := 8) C hM (by decide) rfl k_X11_31 C.2.2.2.2.2.1.2.2.2.1 (by decide) (by decide) (by decide) (by decide) (by decide) dX11_init_41 (fun qv15 H zqv15 hM => ?_)
  have hM : mH D H0 (nA (pR (nA (pR Sv9 1101 h0 (some qv7)) qv14 5 4) 1102 h0 (some qv14)) qv15 6 8) ((((((kc + 1) + 1) + 1) + 1) + 1) + 1) ((((((ns + 2) + 1600) + 6) + 8) + 4) + 8) H locs := hM
  have kh0 : mK (nA (pR (nA (pR Sv9 1101 h0 (some qv7)) qv14 5 4) 1102 h0 (some qv14)) qv15 6 8) h0 = 12 := (mX.A (S := (pR (nA (pR Sv9 1101 h0 (some qv7)) qv14 5 4) 1102 h0 (some qv14))) (a := qv15) (t := 6) (n := 8) zqv15).k kh0
  have kqv15 : mK (nA (pR (nA (pR Sv9 1101 h0 (some qv7)) qv14 5 4) 1102 h0 (some qv14)) qv15 6 8) qv15 = 27 := kA
  have nqv15 : 8 ≠ 0 → mN (nA (pR (nA (pR Sv9 1101 h0 (some qv7)) qv14 5 4) 1102 h0 (some qv14)) qv15 6 8) qv15 = 8 := fun _ => nAn
  have hX := hX.trans (mX.A (t := 6) (n := 8) zqv15)
  have hI := CI.newA (t := 6) (n := 8) hI zqv15 (by decide)
  refine r_putF C hM kh0 f_X11_33 (fun r h => by cases h; exact ⟨rfl, rfl⟩) hnm rfl rfl (mPut.Rf (ci := 11) (k := 3) (x := (some qv15)) rfl) dX11_init_44 (fun H locs hM => ?_)
  have hM : mH D H0 (pR (nA (pR (nA (pR Sv9 1101 h0 (some qv7)) qv14 5 4) 1102 h0 (some qv14)) qv15 6 8) 1103 h0 (some qv15)) ((((((kc + 1) + 1) + 1) + 1) + 1) + 1) ((((((ns + 2) + 1600) + 6) + 8) + 4) + 8) H locs := hM
  have hI : CI (xl x0 h0 [1104, 1105, 1106, 1107, 1108, 1109]) u tl rho (pR (nA (pR (nA (pR Sv9 1101 h0 (some qv7)) qv14 5 4) 1102 h0 (some qv14)) qv15 6 8) 1103 h0 (some qv15)) := CI.fill (ci := 11) (k := 3) hI kh0 kqv15 nqv15 (by decide) (by decide) (by decide) (by decide)
  refine lv_aload_n hx hb dX11_init_47 rfl (lv_at hl 0 rfl) ?_
  refine lv_sipush (v := 3721) hx hb dX11_init_48 (by decide) ?_
  refine r_newI (N' := 3721) C hM ac_int (by decide) (by decide) (by decide) (by decide) (by decide) dX11_init_51 (fun qv16 H zqv16 hM => ?_)
  have hM : mH D H0 (nA (pR (nA (pR (nA (pR Sv9 1101 h0 (some qv7)) qv14 5 4) 1102 h0 (some qv14)) qv15 6 8) 1103 h0 (some qv15)) qv16 0 3721) (((((((kc + 1) + 1) + 1) + 1) + 1) + 1) + 1) (((((((ns + 2) + 1600) + 6) + 8) + 4) + 8) + 3721) H locs := hM
  have kh0 : mK (nA (pR (nA (pR (nA (pR Sv9 1101 h0 (some qv7)) qv14 5 4) 1102 h0 (some qv14)) qv15 6 8) 1103 h0 (some qv15)) qv16 0 3721) h0 = 12 := (mX.A (S := (pR (nA (pR (nA (pR Sv9 1101 h0 (some qv7)) qv14 5 4) 1102 h0 (some qv14)) qv15 6 8) 1103 h0 (some qv15))) (a := qv16) (t := 0) (n := 3721) zqv16).k kh0
  have kqv16 : mK (nA (pR (nA (pR (nA (pR Sv9 1101 h0 (some qv7)) qv14 5 4) 1102 h0 (some qv14)) qv15 6 8) 1103 h0 (some qv15)) qv16 0 3721) qv16 = 21 := kA
  have nqv16 : 3721 ≠ 0 → mN (nA (pR (nA (pR (nA (pR Sv9 1101 h0 (some qv7)) qv14 5 4) 1102 h0 (some qv14)) qv15 6 8) 1103 h0 (some qv15)) qv16 0 3721) qv16 = 3721 := fun _ => nAn
  have hX := hX.trans (mX.A (t := 0) (n := 3721) zqv16)
  have hI := CI.newA (t := 0) (n := 3721) hI zqv16 (by decide)
  refine r_putF C hM kh0 f_X11_37 (fun r h => by cases h; exact ⟨rfl, rfl⟩) hnm rfl rfl (mPut.Rf (ci := 11) (k := 4) (x := (some qv16)) rfl) dX11_init_53 (fun H locs hM => ?_)
  have hM : mH D H0 (pR (nA (pR (nA (pR (nA (pR Sv9 1101 h0 (some qv7)) qv14 5 4) 1102 h0 (some qv14)) qv15 6 8) 1103 h0 (some qv15)) qv16 0 3721) 1104 h0 (some qv16)) (((((((kc + 1) + 1) + 1) + 1) + 1) + 1) + 1) (((((((ns + 2) + 1600) + 6) + 8) + 4) + 8) + 3721) H locs := hM
  have hI : CI (xl x0 h0 [1105, 1106, 1107, 1108, 1109]) u tl rho (pR (nA (pR (nA (pR (nA (pR Sv9 1101 h0 (some qv7)) qv14 5 4) 1102 h0 (some qv14)) qv15 6 8) 1103 h0 (some qv15)) qv16 0 3721) 1104 h0 (some qv16)) := CI.fill (ci := 11) (k := 4) hI kh0 kqv16 nqv16 (by decide) (by decide) (by decide) (by decide)
  refine lv_aload_n hx hb dX11_init_56 rfl (lv_at hl 0 rfl) ?_
  refine r_new (ci := 1) C hM rfl k_X11_41 in_X1 ini_X1 (by decide) (by decide) dX11_init_57 (fun qv17 H zqv17 hM => ?_)
  have hM : mH D H0 (nO (pR (nA (pR (nA (pR (nA (pR Sv9 1101 h0 (some qv7)) qv14 5 4) 1102 h0 (some qv14)) qv15 6 8) 1103 h0 (some qv15)) qv16 0 3721) 1104 h0 (some qv16)) qv17 1) ((((((((kc + 1) + 1) + 1) + 1) + 1) + 1) + 1) + 1) ((((((((ns + 2) + 1600) + 6) + 8) + 4) + 8) + 3721) + 4) H locs := hM
  have kh0 : mK (nO (pR (nA (pR (nA (pR (nA (pR Sv9 1101 h0 (some qv7)) qv14 5 4) 1102 h0 (some qv14)) qv15 6 8) 1103 h0 (some qv15)) qv16 0 3721) 1104 h0 (some qv16)) qv17 1) h0 = 12 := (mX.O (S := (pR (nA (pR (nA (pR (nA (pR Sv9 1101 h0 (some qv7)) qv14 5 4) 1102 h0 (some qv14)) qv15 6 8) 1103 h0 (some qv15)) qv16 0 3721) 1104 h0 (some qv16))) (a := qv17) (ci := 1) zqv17).k kh0
  have kqv17 : mK (nO (pR (nA (pR (nA (pR (nA (pR Sv9 1101 h0 (some qv7)) qv14 5 4) 1102 h0 (some qv14)) qv15 6 8) 1103 h0 (some qv15)) qv16 0 3721) 1104 h0 (some qv16)) qv17 1) qv17 = 2 := kO
  have hX := hX.trans (mX.O (ci := 1) zqv17)
  have hI := CI.newO (ci := 1) hI zqv17 (by decide) (by decide)
  have hI : CI (xl (xl x0 h0 [1105, 1106, 1107, 1108, 1109]) qv17 []) u tl rho (nO (pR (nA (pR (nA (pR (nA (pR Sv9 1101 h0 (some qv7)) qv14 5 4) 1102 h0 (some qv14)) qv15 6 8) 1103 h0 (some qv15)) qv16 0 3721) 1104 h0 (some qv16)) qv17 1) := CI.todo (ci := 1) hI kqv17 (by decide)
  refine lv_dup hx hb dX11_init_60 rfl ?_
  refine r_IN (As := []) (rest := [.ref qv17, .ref h0]) C hM (c_X1_init l D H0 (nO (pR (nA (pR (nA (pR (nA (pR Sv9 1101 h0 (some qv7)) qv14 5 4) 1102 h0 (some qv14)) qv15 6 8) 1103 h0 (some qv15)) qv16 0 3721) 1104 h0 (some qv16)) qv17 1) ((((((((kc + 1) + 1) + 1) + 1) + 1) + 1) + 1) + 1) ((((((((ns + 2) + 1600) + 6) + 8) + 4) + 8) + 3721) + 4) qv17 hI kqv17) i_X1_init m_X11_43 rfl hl.1 rfl (Nat.le_of_ble_eq_true rfl) ⟨by decide, by decide⟩ ⟨by decide, by decide⟩ dX11_init_61 (fun uv21 Sv18 kv19 nv20 H locs pv22 hM => ?_)
  obtain ⟨rfl, rfl, hx9, hI⟩ := pv22
  have kh0 : mK Sv18 h0 = 12 := (hx9).k kh0
  have kqv17 : mK Sv18 qv17 = 2 := (hx9).k kqv17
  have hX := hX.trans hx9
  refine W.eq (g2 := F0 m 64 ls [.ref qv17, .ref h0]) rfl ?_
  refine r_putF C hM kh0 f_X11_44 (fun r h => by cases h; exact ⟨rfl, rfl⟩) hnm rfl rfl (mPut.Rf (ci := 11) (k := 5) (x := (some qv17)) rfl) dX11_init_64 (fun H locs hM => ?_)
  have hM : mH D H0 (pR Sv18 1105 h0 (some qv17)) (((((((((kc + 1) + 1) + 1) + 1) + 1) + 1) + 1) + 1) + 0) (((((((((ns + 2) + 1600) + 6) + 8) + 4) + 8) + 3721) + 4) + 0) H locs := hM
  have hI : CI (xl x0 h0 [1106, 1107, 1108, 1109]) u tl rho (pR Sv18 1105 h0 (some qv17)) := CI.fill (ci := 11) (k := 5) hI kh0 kqv17 (fun h => absurd rfl h) (by decide) (by decide) (by decide) (by decide)
  refine lv_aload_n hx hb dX11_init_67 rfl (lv_at hl 0 rfl) ?_
  refine r_new (ci := 1) C hM rfl k_X11_41 in_X1 ini_X1 (by decide) (by decide) dX11_init_68 (fun qv23 H zqv23 hM => ?_)
  have hM : mH D H0 (nO (pR Sv18 1105 h0 (some qv17)) qv23 1) ((((((((((kc + 1) + 1) + 1) + 1) + 1) + 1) + 1) + 1) + 0) + 1) ((((((((((ns + 2) + 1600) + 6) + 8) + 4) + 8) + 3721) + 4) + 0) + 4) H locs := hM
  have kh0 : mK (nO (pR Sv18 1105 h0 (some qv17)) qv23 1) h0 = 12 := (mX.O (S := (pR Sv18 1105 h0 (some qv17))) (a := qv23) (ci := 1) zqv23).k kh0
  have kqv23 : mK (nO (pR Sv18 1105 h0 (some qv17)) qv23 1) qv23 = 2 := kO
  have hX := hX.trans (mX.O (ci := 1) zqv23)
  have hI := CI.newO (ci := 1) hI zqv23 (by decide) (by decide)
  have hI : CI (xl (xl x0 h0 [1106, 1107, 1108, 1109]) qv23 []) u tl rho (nO (pR Sv18 1105 h0 (some qv17)) qv23 1) := CI.todo (ci := 1) hI kqv23 (by decide)
  refine lv_dup hx hb dX11_init_71 rfl ?_
  refine r_IN (As := []) (rest := [.ref qv23, .ref h0]) C hM (c_X1_init l D H0 (nO (pR Sv18 1105 h0 (some qv17)) qv23 1) ((((((((((kc + 1) + 1) + 1) + 1) + 1) + 1) + 1) + 1) + 0) + 1) ((((((((((ns + 2) + 1600) + 6) + 8) + 4) + 8) + 3721) + 4) + 0) + 4) qv23 hI kqv23) i_X1_init m_X11_43 rfl hl.1 rfl (Nat.le_of_ble_eq_true rfl) ⟨by decide, by decide⟩ ⟨by decide, by decide⟩ dX11_init_72 (fun uv27 Sv24 kv25 nv26 H locs pv28 hM => ?_)
  obtain ⟨rfl, rfl, hx9, hI⟩ := pv28
  have kh0 : mK Sv24 h0 = 12 := (hx9).k kh0
  have kqv23 : mK Sv24 qv23 = 2 := (hx9).k kqv23
  have hX := hX.trans hx9
  refine W.eq (g2 := F0 m 75 ls [.ref qv23, .ref h0]) rfl ?_
  refine r_putF C hM kh0 f_X11_48 (fun r h => by cases h; exact ⟨rfl, rfl⟩) hnm rfl rfl (mPut.Rf (ci := 11) (k := 6) (x := (some qv23)) rfl) dX11_init_75 (fun H locs hM => ?_)
  have hM : mH D H0 (pR Sv24 1106 h0 (some qv23)) (((((((((((kc + 1) + 1) + 1) + 1) + 1) + 1) + 1) + 1) + 0) + 1) + 0) (((((((((((ns + 2) + 1600) + 6) + 8) + 4) + 8) + 3721) + 4) + 0) + 4) + 0) H locs := hM
  have hI : CI (xl x0 h0 [1107, 1108, 1109]) u tl rho (pR Sv24 1106 h0 (some qv23)) := CI.fill (ci := 11) (k := 6) hI kh0 kqv23 (fun h => absurd rfl h) (by decide) (by decide) (by decide) (by decide)
  refine lv_aload_n hx hb dX11_init_78 rfl (lv_at hl 0 rfl) ?_
  refine r_new (ci := 8) C hM rfl k_X11_51 in_X8 ini_X8 (by decide) (by decide) dX11_init_79 (fun qv29 H zqv29 hM => ?_)
  have hM : mH D H0 (nO (pR Sv24 1106 h0 (some qv23)) qv29 8) ((((((((((((kc + 1) + 1) + 1) + 1) + 1) + 1) + 1) + 1) + 0) + 1) + 0) + 1) ((((((((((((ns + 2) + 1600) + 6) + 8) + 4) + 8) + 3721) + 4) + 0) + 4) + 0) + 4) H locs := hM
  have kh0 : mK (nO (pR Sv24 1106 h0 (some qv23)) qv29 8) h0 = 12 := (mX.O (S := (pR Sv24 1106 h0 (some qv23))) (a := qv29) (ci := 8) zqv29).k kh0
  have kqv29 : mK (nO (pR Sv24 1106 h0 (some qv23)) qv29 8) qv29 = 9 := kO
  have hX := hX.trans (mX.O (ci := 8) zqv29)
  have hI := CI.newO (ci := 8) hI zqv29 (by decide) (by decide)
  have hI : CI (xl (xl x0 h0 [1107, 1108, 1109]) qv29 [800, 801]) u tl rho (nO (pR Sv24 1106 h0 (some qv23)) qv29 8) := CI.todo (ci := 8) hI kqv29 (by decide)
  refine lv_dup hx hb dX11_init_82 rfl ?_
  refine r_IN (As := []) (rest := [.ref qv29, .ref h0]) C hM (c_X8_init l D H0 (nO (pR Sv24 1106 h0 (some qv23)) qv29 8) ((((((((((((kc + 1) + 1) + 1) + 1) + 1) + 1) + 1) + 1) + 0) + 1) + 0) + 1) ((((((((((((ns + 2) + 1600) + 6) + 8) + 4) + 8) + 3721) + 4) + 0) + 4) + 0) + 4) qv29 hI kqv29) i_X8_init m_X11_53 rfl hl.1 rfl (Nat.le_of_ble_eq_true rfl) ⟨by decide, by decide⟩ ⟨by decide, by decide⟩ dX11_init_83 (fun uv33 Sv30 kv31 nv32 H locs pv34 hM => ?_)
  obtain ⟨rfl, rfl, hx9, hI⟩ := pv34
  have kh0 : mK Sv30 h0 = 12 := (hx9).k kh0
  have kqv29 : mK Sv30 qv29 = 9 := (hx9).k kqv29
  have hX := hX.trans hx9
  refine W.eq (g2 := F0 m 86 ls [.ref qv29, .ref h0]) rfl ?_
  refine r_putF C hM kh0 f_X11_54 (fun r h => by cases h; exact ⟨rfl, rfl⟩) hnm rfl rfl (mPut.Rf (ci := 11) (k := 7) (x := (some qv29)) rfl) dX11_init_86 (fun H locs hM => ?_)
  have hM : mH D H0 (pR Sv30 1107 h0 (some qv29)) (((((((((((((kc + 1) + 1) + 1) + 1) + 1) + 1) + 1) + 1) + 0) + 1) + 0) + 1) + 2) (((((((((((((ns + 2) + 1600) + 6) + 8) + 4) + 8) + 3721) + 4) + 0) + 4) + 0) + 4) + 262) H locs := hM
  have hI : CI (xl x0 h0 [1108, 1109]) u tl rho (pR Sv30 1107 h0 (some qv29)) := CI.fill (ci := 11) (k := 7) hI kh0 kqv29 (fun h => absurd rfl h) (by decide) (by decide) (by decide) (by decide)
  refine lv_aload_n hx hb dX11_init_89 rfl (lv_at hl 0 rfl) ?_
  refine lv_bipush (v := 20) hx hb dX11_init_90 (by decide) ?_
  refine r_newq (t := 3) (N' := 20) C hM (by decide) rfl k_X11_58 C.2.2.2.2.2.1.2.2.2.2 (by decide) (by decide) (by decide) (by decide) (by decide) dX11_init_92 (fun qv35 H zqv35 hM => ?_)
  have hM : mH D H0 (nA (pR Sv30 1107 h0 (some qv29)) qv35 7 20) ((((((((((((((kc + 1) + 1) + 1) + 1) + 1) + 1) + 1) + 1) + 0) + 1) + 0) + 1) + 2) + 1) ((((((((((((((ns + 2) + 1600) + 6) + 8) + 4) + 8) + 3721) + 4) + 0) + 4) + 0) + 4) + 262) + 20) H locs := hM
  have kh0 : mK (nA (pR Sv30 1107 h0 (some qv29)) qv35 7 20) h0 = 12 := (mX.A (S := (pR Sv30 1107 h0 (some qv29))) (a := qv35) (t := 7) (n := 20) zqv35).k kh0
  have kqv35 : mK (nA (pR Sv30 1107 h0 (some qv29)) qv35 7 20) qv35 = 28 := kA
  have nqv35 : 20 ≠ 0 → mN (nA (pR Sv30 1107 h0 (some qv29)) qv35 7 20) qv35 = 20 := fun _ => nAn
  have hX := hX.trans (mX.A (t := 7) (n := 20) zqv35)
  have hI := CI.newA (t := 7) (n := 20) hI zqv35 (by decide)
  refine r_putF C hM kh0 f_X11_60 (fun r h => by cases h; exact ⟨rfl, rfl⟩) hnm rfl rfl (mPut.Rf (ci := 11) (k := 8) (x := (some qv35)) rfl) dX11_init_95 (fun H locs hM => ?_)
  have hM : mH D H0 (pR (nA (pR Sv30 1107 h0 (some qv29)) qv35 7 20) 1108 h0 (some qv35)) ((((((((((((((kc + 1) + 1) + 1) + 1) + 1) + 1) + 1) + 1) + 0) + 1) + 0) + 1) + 2) + 1) ((((((((((((((ns + 2) + 1600) + 6) + 8) + 4) + 8) + 3721) + 4) + 0) + 4) + 0) + 4) + 262) + 20) H locs := hM
  have hI : CI (xl x0 h0 [1109]) u tl rho (pR (nA (pR Sv30 1107 h0 (some qv29)) qv35 7 20) 1108 h0 (some qv35)) := CI.fill (ci := 11) (k := 8) hI kh0 kqv35 nqv35 (by decide) (by decide) (by decide) (by decide)
  refine lv_aload_n hx hb dX11_init_98 rfl (lv_at hl 0 rfl) ?_
  refine r_new (ci := 7) C hM rfl k_X11_64 in_X7 ini_X7 (by decide) (by decide) dX11_init_99 (fun qv36 H zqv36 hM => ?_)
  have hM : mH D H0 (nO (pR (nA (pR Sv30 1107 h0 (some qv29)) qv35 7 20) 1108 h0 (some qv35)) qv36 7) (((((((((((((((kc + 1) + 1) + 1) + 1) + 1) + 1) + 1) + 1) + 0) + 1) + 0) + 1) + 2) + 1) + 1) (((((((((((((((ns + 2) + 1600) + 6) + 8) + 4) + 8) + 3721) + 4) + 0) + 4) + 0) + 4) + 262) + 20) + 6) H locs := hM
  have kh0 : mK (nO (pR (nA (pR Sv30 1107 h0 (some qv29)) qv35 7 20) 1108 h0 (some qv35)) qv36 7) h0 = 12 := (mX.O (S := (pR (nA (pR Sv30 1107 h0 (some qv29)) qv35 7 20) 1108 h0 (some qv35))) (a := qv36) (ci := 7) zqv36).k kh0
  have kqv36 : mK (nO (pR (nA (pR Sv30 1107 h0 (some qv29)) qv35 7 20) 1108 h0 (some qv35)) qv36 7) qv36 = 8 := kO
  have hX := hX.trans (mX.O (ci := 7) zqv36)
  have hI := CI.newO (ci := 7) hI zqv36 (by decide) (by decide)
  have hI : CI (xl (xl x0 h0 [1109]) qv36 [700]) u tl rho (nO (pR (nA (pR Sv30 1107 h0 (some qv29)) qv35 7 20) 1108 h0 (some qv35)) qv36 7) := CI.todo (ci := 7) hI kqv36 (by decide)
  refine lv_dup hx hb dX11_init_102 rfl ?_
  refine r_IN (As := []) (rest := [.ref qv36, .ref h0]) C hM (c_X7_init l D H0 (nO (pR (nA (pR Sv30 1107 h0 (some qv29)) qv35 7 20) 1108 h0 (some qv35)) qv36 7) (((((((((((((((kc + 1) + 1) + 1) + 1) + 1) + 1) + 1) + 1) + 0) + 1) + 0) + 1) + 2) + 1) + 1) (((((((((((((((ns + 2) + 1600) + 6) + 8) + 4) + 8) + 3721) + 4) + 0) + 4) + 0) + 4) + 262) + 20) + 6) qv36 hI kqv36) i_X7_init m_X11_66 rfl hl.1 rfl (Nat.le_of_ble_eq_true rfl) ⟨by decide, by decide⟩ ⟨by decide, by decide⟩ dX11_init_103 (fun uv40 Sv37 kv38 nv39 H locs pv41 hM => ?_)
  obtain ⟨rfl, rfl, hx9, hI⟩ := pv41
  have kh0 : mK Sv37 h0 = 12 := (hx9).k kh0
  have kqv36 : mK Sv37 qv36 = 8 := (hx9).k kqv36
  have hX := hX.trans hx9
  refine W.eq (g2 := F0 m 106 ls [.ref qv36, .ref h0]) rfl ?_
  refine r_putF C hM kh0 f_X11_67 (fun r h => by cases h; exact ⟨rfl, rfl⟩) hnm rfl rfl (mPut.Rf (ci := 11) (k := 9) (x := (some qv36)) rfl) dX11_init_106 (fun H locs hM => ?_)
  have hM : mH D H0 (pR Sv37 1109 h0 (some qv36)) ((((((((((((((((kc + 1) + 1) + 1) + 1) + 1) + 1) + 1) + 1) + 0) + 1) + 0) + 1) + 2) + 1) + 1) + 1) ((((((((((((((((ns + 2) + 1600) + 6) + 8) + 4) + 8) + 3721) + 4) + 0) + 4) + 0) + 4) + 262) + 20) + 6) + 40) H locs := hM
  have hI : CI (xl x0 h0 []) u tl rho (pR Sv37 1109 h0 (some qv36)) := CI.fill (ci := 11) (k := 9) hI kh0 kqv36 (fun h => absurd rfl h) (by decide) (by decide) (by decide) (by decide)
  refine lv_aload_n hx hb dX11_init_109 rfl (lv_at hl 0 rfl) ?_
  refine lv_iconst (v := 0) hx hb dX11_init_110 (by decide) ?_
  refine r_put C hM kh0 f_X11_71 (fun r h => by cases h; rfl) rfl rfl (mPut.I (ci := 11) (k := 10) rfl) dX11_init_111 (fun H locs hM => ?_)
  have hM : mH D H0 (pI (pR Sv37 1109 h0 (some qv36)) 1110 h0 0) ((((((((((((((((kc + 1) + 1) + 1) + 1) + 1) + 1) + 1) + 1) + 0) + 1) + 0) + 1) + 2) + 1) + 1) + 1) ((((((((((((((((ns + 2) + 1600) + 6) + 8) + 4) + 8) + 3721) + 4) + 0) + 4) + 0) + 4) + 262) + 20) + 6) + 40) H locs := hM
  have hI := CI.p1110 (a := h0) (v := 0) hI ⟨by omega, by omega⟩
  refine lv_aload_n hx hb dX11_init_114 rfl (lv_at hl 0 rfl) ?_
  refine lv_iconst (v := 0) hx hb dX11_init_115 (by decide) ?_
  refine r_put C hM kh0 f_X11_75 (fun r h => by cases h; rfl) rfl rfl (mPut.I (ci := 11) (k := 11) rfl) dX11_init_116 (fun H locs hM => ?_)
  have hM : mH D H0 (pI (pI (pR Sv37 1109 h0 (some qv36)) 1110 h0 0) 1111 h0 0) ((((((((((((((((kc + 1) + 1) + 1) + 1) + 1) + 1) + 1) + 1) + 0) + 1) + 0) + 1) + 2) + 1) + 1) + 1) ((((((((((((((((ns + 2) + 1600) + 6) + 8) + 4) + 8) + 3721) + 4) + 0) + 4) + 0) + 4) + 262) + 20) + 6) + 40) H locs := hM
  have hI := CI.p1111 (a := h0) (v := 0) hI ⟨by omega, by omega⟩
  refine lv_aload_n hx hb dX11_init_119 rfl (lv_at hl 0 rfl) ?_
  refine lv_iconst (v := 1) hx hb dX11_init_120 (by decide) ?_
  refine r_put C hM kh0 f_X11_78 (fun r h => by cases h; rfl) rfl rfl (mPut.I (ci := 11) (k := 12) rfl) dX11_init_121 (fun H locs hM => ?_)
  have hM : mH D H0 (pI (pI (pI (pR Sv37 1109 h0 (some qv36)) 1110 h0 0) 1111 h0 0) 1112 h0 1) ((((((((((((((((kc + 1) + 1) + 1) + 1) + 1) + 1) + 1) + 1) + 0) + 1) + 0) + 1) + 2) + 1) + 1) + 1) ((((((((((((((((ns + 2) + 1600) + 6) + 8) + 4) + 8) + 3721) + 4) + 0) + 4) + 0) + 4) + 262) + 20) + 6) + 40) H locs := hM
  have hI := hI.fe (fEq.I (S := (pI (pI (pR Sv37 1109 h0 (some qv36)) 1110 h0 0) 1111 h0 0)) (f := 1112) (a := h0) (v := 1) (by decide))
  refine W.widen (k := 15) (n := 5689) (by first | decide | omega) (by first | decide | omega) ?_
  exact r_retV C hr hlk hM (⟨by omega, by omega, hX, (TI.nn (CI.full hI).1 (ci := 11) (k := 3) kh0).elim (fun t ht => CI.tab (t := t) (CI.noinfo (CI.full hI)) kh0 ht.1 (fun i hi => absurd hi (by omega)) (fun _ => by simp [mI, up2]))⟩) dX11_init_124
