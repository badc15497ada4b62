set_option maxHeartbeats 4000000 in
set_option maxRecDepth 100000 in
theorem c_X9_init (l : Launch) (D : gD) (H0 : gB) (S : Mem) (kc ns : Nat) (h0 : Nat) {x : Nat → Nat → Prop} {u : Nat} {tl : Int} {rho : Nat × Nat} (hI : CI (xl x h0 [900]) u tl rho S) (kh0 : mK S h0 = 10) (htl : tl = 0) : Met l yX9_init (wsU yX9_init cX9_init 1 none) ({ frames := 1, cells := 1, slots := 1600, locals := 20 } : Room) (mP D H0 S kc ns [.ref h0]) (mQ D H0 gV (fun r S1 k1 n1 => kc + 1 = k1 ∧ ns + 1600 = n1 ∧ mX S S1 ∧ CI x u tl rho S1)) 1 1600 (mF H0) := by
  refine r_met (own := RX9) (by decide +kernel) rfl (Nat.le_of_ble_eq_true rfl) ?_
  intro p e s m args below meth c C hr hlk hnm H ls hl hM
  obtain ⟨hx, hb, hml, hown, hts, -, -⟩ := id C
  have hl : lv_has ls 1 [(0, .ref h0)] := hl
  have hI0 := hI
  have hX : mX S S := mX.rf
  have t_0 : (0 : Int32).toInt = 0 := by decide
  have t_1600 : (1600 : Int32).toInt = 1600 := by decide
  refine lv_aload_n hx hb dX9_init_0 rfl (lv_at hl 0 rfl) ?_
  refine W.objInit hx hb hown (hts _ m_X9_3) (hts _ oi_inst) (hts _ oi_code) rfl (by rw [hml]; exact hl.1) rfl dX9_init_1 (Nat.le_of_ble_eq_true rfl) (Nat.le_of_ble_eq_true rfl) ?_
  refine W.eq (g2 := F0 m 4 ls []) rfl ?_
  refine lv_aload_n hx hb dX9_init_4 rfl (lv_at hl 0 rfl) ?_
  refine lv_sipush (v := 1600) hx hb dX9_init_5 (by decide) ?_
  refine r_newB (N' := 1600) C hM ac_byte (by decide) (by decide) (by decide) (by decide) (by decide) dX9_init_8 (fun qv1 H zqv1 hM => ?_)
  have hM : mH D H0 (nA S qv1 2 1600) (kc + 1) (ns + 1600) H [] := hM
  have kh0 : mK (nA S qv1 2 1600) h0 = 10 := (mX.A (S := S) (a := qv1) (t := 2) (n := 1600) zqv1).k kh0
  have kqv1 : mK (nA S qv1 2 1600) qv1 = 23 := kA
  have nqv1 : 1600 ≠ 0 → mN (nA S qv1 2 1600) qv1 = 1600 := fun _ => nAn
  have hX := hX.trans (mX.A (t := 2) (n := 1600) zqv1)
  have hI := CI.newA (t := 2) (n := 1600) hI zqv1 (by decide)
  refine r_putF C hM kh0 f_X9_9 (fun r h => by cases h; exact ⟨rfl, rfl⟩) hnm rfl rfl (mPut.Rf (ci := 9) (k := 0) (x := (some qv1)) rfl) dX9_init_10 (fun H locs hM => ?_)
  have hM : mH D H0 (pR (nA S qv1 2 1600) 900 h0 (some qv1)) (kc + 1) (ns + 1600) H locs := hM
  have hI : CI (xl x h0 []) u tl rho (pR (nA S qv1 2 1600) 900 h0 (some qv1)) := CI.fill (ci := 9) (k := 0) hI kh0 kqv1 nqv1 (by decide) (by decide) (by decide) (by decide)
  refine lv_aload_n hx hb dX9_init_13 rfl (lv_at hl 0 rfl) ?_
  refine lv_iconst (v := 0) hx hb dX9_init_14 (by decide) ?_
  refine r_put C hM kh0 f_X9_15 (fun r h => by cases h; rfl) rfl rfl (mPut.I (ci := 9) (k := 1) rfl) dX9_init_15 (fun H locs hM => ?_)
  have hM : mH D H0 (pI (pR (nA S qv1 2 1600) 900 h0 (some qv1)) 901 h0 0) (kc + 1) (ns + 1600) H locs := hM
  have hI : CI (xl x h0 []) u tl rho (pI (pR (nA S qv1 2 1600) 900 h0 (some qv1)) 901 h0 0) := by rw [htl] at hI ⊢; exact CI.p901 (v := 0) hI kh0 ⟨by decide, by decide⟩
  refine W.widen (k := 1) (n := 1600) (by first | decide | omega) (by first | decide | omega) ?_
  exact r_retV C hr hlk hM (⟨rfl, rfl, hX, CI.full hI⟩) dX9_init_18
set_option maxHeartbeats 4000000 in
set_option maxRecDepth 100000 in
theorem c_X10_init (l : Launch) (D : gD) (H0 : gB) (S : Mem) (kc ns : Nat) (h0 : Nat) (h1 : Nat) {x : Nat → Nat → Prop} {u : Nat} {tl : Int} {rho : Nat × Nat} (hI : CI (xl x h0 [1000]) u tl rho S) (kh0 : mK S h0 = 11) (kh1 : mK S h1 = 10) : Met l yX10_init (wsU yX10_init cX10_init 2 none) ({ frames := 1, cells := 0, slots := 0, locals := 20 } : Room) (mP D H0 S kc ns [.ref h0, .ref h1]) (mQ D H0 gV (fun r S1 k1 n1 => kc + 0 = k1 ∧ ns + 0 = n1 ∧ mX S S1 ∧ CI x u tl rho S1)) 0 0 (mF H0) := by
  refine r_met (own := RX10) (by decide +kernel) rfl (Nat.le_of_ble_eq_true rfl) ?_
  intro p e s m args below meth c C hr hlk hnm H ls hl hM
  obtain ⟨hx, hb, hml, hown, hts, -, -⟩ := id C
  have hl : lv_has ls 2 [(0, .ref h0), (1, .ref h1)] := hl
  have hI0 := hI
  have hX : mX S S := mX.rf
  have t_0 : (0 : Int32).toInt = 0 := by decide
  refine lv_aload_n hx hb dX10_init_0 rfl (lv_at hl 0 rfl) ?_
  refine W.objInit hx hb hown (hts _ m_X10_1) (hts _ oi_inst) (hts _ oi_code) rfl (by rw [hml]; exact hl.1) rfl dX10_init_1 (Nat.le_of_ble_eq_true rfl) (Nat.le_of_ble_eq_true rfl) ?_
  refine W.eq (g2 := F0 m 4 ls []) rfl ?_
  refine lv_aload_n hx hb dX10_init_4 rfl (lv_at hl 0 rfl) ?_
  refine lv_iconst (v := 0) hx hb dX10_init_5 (by decide) ?_
  refine r_put C hM kh0 f_X10_7 (fun r h => by cases h; rfl) rfl rfl (mPut.I (ci := 10) (k := 1) rfl) dX10_init_6 (fun H locs hM => ?_)
  have hM : mH D H0 (pI S 1001 h0 0) kc ns H locs := hM
  have hI := hI.fe (fEq.I (S := S) (f := 1001) (a := h0) (v := 0) (by decide))
  refine lv_aload_n hx hb dX10_init_9 rfl (lv_at hl 0 rfl) ?_
  refine lv_iconst (v := 0) hx hb dX10_init_10 (by decide) ?_
  refine r_put C hM kh0 f_X10_13 (fun r h => by cases h; rfl) rfl rfl (mPut.I (ci := 10) (k := 2) rfl) dX10_init_11 (fun H locs hM => ?_)
  have hM : mH D H0 (pI (pI S 1001 h0 0) 1002 h0 0) kc ns H locs := hM
  have hI := hI.fe (fEq.I (S := (pI S 1001 h0 0)) (f := 1002) (a := h0) (v := 0) (by decide))
  refine lv_aload_n hx hb dX10_init_14 rfl (lv_at hl 0 rfl) ?_
  refine lv_iconst (v := 0) hx hb dX10_init_15 (by decide) ?_
  refine r_put C hM kh0 f_X10_16 (fun r h => by cases h; rfl) rfl rfl (mPut.I (ci := 10) (k := 3) rfl) dX10_init_16 (fun H locs hM => ?_)
  have hM : mH D H0 (pI (pI (pI S 1001 h0 0) 1002 h0 0) 1003 h0 0) kc ns H locs := hM
  have hI := hI.fe (fEq.I (S := (pI (pI S 1001 h0 0) 1002 h0 0)) (f := 1003) (a := h0) (v := 0) (by decide))
  refine lv_aload_n hx hb dX10_init_19 rfl (lv_at hl 0 rfl) ?_
  refine lv_lconst (v := 0) hx hb dX10_init_20 (by decide) ?_
  refine r_put C hM kh0 f_X10_19 (fun r h => by cases h; rfl) rfl rfl (mPut.L (ci := 10) (k := 4) rfl) dX10_init_21 (fun H locs hM => ?_)
  have hM : mH D H0 (pL (pI (pI (pI S 1001 h0 0) 1002 h0 0) 1003 h0 0) 1004 h0 0) kc ns H locs := hM
  have hI := hI.fe (fEq.L (S := (pI (pI (pI S 1001 h0 0) 1002 h0 0) 1003 h0 0)) (f := 1004) (a := h0) (v := 0))
  refine lv_aload_n hx hb dX10_init_24 rfl (lv_at hl 0 rfl) ?_
  refine lv_lconst (v := 0) hx hb dX10_init_25 (by decide) ?_
  refine r_put C hM kh0 f_X10_23 (fun r h => by cases h; rfl) rfl rfl (mPut.L (ci := 10) (k := 5) rfl) dX10_init_26 (fun H locs hM => ?_)
  have hM : mH D H0 (pL (pL (pI (pI (pI S 1001 h0 0) 1002 h0 0) 1003 h0 0) 1004 h0 0) 1005 h0 0) kc ns H locs := hM
  have hI := hI.fe (fEq.L (S := (pL (pI (pI (pI S 1001 h0 0) 1002 h0 0) 1003 h0 0) 1004 h0 0)) (f := 1005) (a := h0) (v := 0))
  refine lv_aload_n hx hb dX10_init_29 rfl (lv_at hl 0 rfl) ?_
  refine lv_lconst (v := 0) hx hb dX10_init_30 (by decide) ?_
  refine r_put C hM kh0 f_X10_26 (fun r h => by cases h; rfl) rfl rfl (mPut.L (ci := 10) (k := 6) rfl) dX10_init_31 (fun H locs hM => ?_)
  have hM : mH D H0 (pL (pL (pL (pI (pI (pI S 1001 h0 0) 1002 h0 0) 1003 h0 0) 1004 h0 0) 1005 h0 0) 1006 h0 0) kc ns H locs := hM
  have hI := hI.fe (fEq.L (S := (pL (pL (pI (pI (pI S 1001 h0 0) 1002 h0 0) 1003 h0 0) 1004 h0 0) 1005 h0 0)) (f := 1006) (a := h0) (v := 0))
  refine lv_aload_n hx hb dX10_init_34 rfl (lv_at hl 0 rfl) ?_
  refine lv_iconst (v := 0) hx hb dX10_init_35 (by decide) ?_
  refine r_put C hM kh0 f_X10_29 (fun r h => by cases h; rfl) rfl rfl (mPut.I (ci := 10) (k := 7) rfl) dX10_init_36 (fun H locs hM => ?_)
  have hM : mH D H0 (pI (pL (pL (pL (pI (pI (pI S 1001 h0 0) 1002 h0 0) 1003 h0 0) 1004 h0 0) 1005 h0 0) 1006 h0 0) 1007 h0 0) kc ns H locs := hM
  have hI := hI.fe (fEq.I (S := (pL (pL (pL (pI (pI (pI S 1001 h0 0) 1002 h0 0) 1003 h0 0) 1004 h0 0) 1005 h0 0) 1006 h0 0)) (f := 1007) (a := h0) (v := 0) (by decide))
  refine lv_aload_n hx hb dX10_init_39 rfl (lv_at hl 0 rfl) ?_
  refine lv_aload_n hx hb dX10_init_40 rfl (lv_at hl 1 rfl) ?_
  refine r_putF C hM kh0 f_X10_32 (fun r h => by cases h; exact ⟨rfl, rfl⟩) hnm rfl rfl (mPut.Rf (ci := 10) (k := 0) (x := (some h1)) rfl) dX10_init_41 (fun H locs hM => ?_)
  have hM : mH D H0 (pR (pI (pL (pL (pL (pI (pI (pI S 1001 h0 0) 1002 h0 0) 1003 h0 0) 1004 h0 0) 1005 h0 0) 1006 h0 0) 1007 h0 0) 1000 h0 (some h1)) kc ns H locs := hM
  have hI : CI (xl x h0 []) u tl rho (pR (pI (pL (pL (pL (pI (pI (pI S 1001 h0 0) 1002 h0 0) 1003 h0 0) 1004 h0 0) 1005 h0 0) 1006 h0 0) 1007 h0 0) 1000 h0 (some h1)) := CI.fill (ci := 10) (k := 0) hI kh0 kh1 (fun h => absurd rfl h) (by decide) (by decide) (by decide) (by decide)
  exact r_retV C hr hlk hM (⟨rfl, rfl, hX, CI.full hI⟩) dX10_init_44
set_option maxHeartbeats 4000000 in
set_option maxRecDepth 100000 in
theorem c_X6_init (l : Launch) (D : gD) (H0 : gB) (S : Mem) (kc ns : Nat) (h0 : Nat) (h1 : Nat) {x : Nat → Nat → Prop} {u : Nat} {tl : Int} {rho : Nat × Nat} (hI : CI (xl x h0 [600]) u tl rho S) (kh0 : mK S h0 = 7) (kh1 : mK S h1 = 10) : Met l yX6_init (wsU yX6_init cX6_init 2 none) ({ frames := 2, cells := 1, slots := 8, locals := 41 } : Room) (mP D H0 S kc ns [.ref h0, .ref h1]) (mQ D H0 gV (fun r S1 k1 n1 => kc + 1 = k1 ∧ ns + 8 = n1 ∧ mX S S1 ∧ CI x u tl rho S1)) 1 8 (mF H0) := by
  refine r_met (own := RX6) (by decide +kernel) rfl (Nat.le_of_ble_eq_true rfl) ?_
  intro p e s m args below meth c C hr hlk hnm H ls hl hM
  obtain ⟨hx, hb, hml, hown, hts, -, -⟩ := id C
  have hl : lv_has ls 2 [(0, .ref h0), (1, .ref h1)] := hl
  have hI0 := hI
  have hX : mX S S := mX.rf
  have t_m1 : (-1 : Int32).toInt = -1 := by decide
  have t_0 : (0 : Int32).toInt = 0 := by decide
  refine lv_aload_n hx hb dX6_init_0 rfl (lv_at hl 0 rfl) ?_
  refine W.objInit hx hb hown (hts _ m_X6_3) (hts _ oi_inst) (hts _ oi_code) rfl (by rw [hml]; exact hl.1) rfl dX6_init_1 (Nat.le_of_ble_eq_true rfl) (Nat.le_of_ble_eq_true rfl) ?_
  refine W.eq (g2 := F0 m 4 ls []) rfl ?_
  refine lv_aload_n hx hb dX6_init_4 rfl (lv_at hl 0 rfl) ?_
  refine lv_iconst (v := 0) hx hb dX6_init_5 (by decide) ?_
  refine r_put C hM kh0 f_X6_11 (fun r h => by cases h; rfl) rfl rfl (mPut.I (ci := 6) (k := 1) rfl) dX6_init_6 (fun H locs hM => ?_)
  have hM : mH D H0 (pI S 601 h0 0) kc ns H locs := hM
  have hI := hI.fe (fEq.I (S := S) (f := 601) (a := h0) (v := 0) (by decide))
  refine lv_aload_n hx hb dX6_init_9 rfl (lv_at hl 0 rfl) ?_
  refine lv_iconst (v := -1) hx hb dX6_init_10 (by decide) ?_
  refine r_put C hM kh0 f_X6_15 (fun r h => by cases h; rfl) rfl rfl (mPut.I (ci := 6) (k := 2) rfl) dX6_init_11 (fun H locs hM => ?_)
  have hM : mH D H0 (pI (pI S 601 h0 0) 602 h0 (-1)) kc ns H locs := hM
  have hI := hI.fe (fEq.I (S := (pI S 601 h0 0)) (f := 602) (a := h0) (v := (-1)) (by decide))
  refine lv_aload_n hx hb dX6_init_14 rfl (lv_at hl 0 rfl) ?_
  refine lv_iconst (v := 0) hx hb dX6_init_15 (by decide) ?_
  refine r_put C hM kh0 f_X6_18 (fun r h => by cases h; rfl) rfl rfl (mPut.I (ci := 6) (k := 3) rfl) dX6_init_16 (fun H locs hM => ?_)
  have hM : mH D H0 (pI (pI (pI S 601 h0 0) 602 h0 (-1)) 603 h0 0) kc ns H locs := hM
  have hI := hI.fe (fEq.I (S := (pI (pI S 601 h0 0) 602 h0 (-1))) (f := 603) (a := h0) (v := 0) (by decide))
  refine lv_aload_n hx hb dX6_init_19 rfl (lv_at hl 0 rfl) ?_
  refine lv_null hx hb dX6_init_20 ?_
  refine r_put C hM kh0 f_X6_21 (fun r h => by cases h; rfl) rfl rfl (mPut.Rf (ci := 6) (k := 4) (x := none) rfl) dX6_init_21 (fun H locs hM => ?_)
  have hM : mH D H0 (pR (pI (pI (pI S 601 h0 0) 602 h0 (-1)) 603 h0 0) 604 h0 none) kc ns H locs := hM
  have hI : CI (xl x h0 [600]) u tl rho (pR (pI (pI (pI S 601 h0 0) 602 h0 (-1)) 603 h0 0) 604 h0 none) := CI.putR (ci := 6) (k := 4) hI kh0 (fun z h => by cases h) (Or.inl rfl) (by decide) (by decide) (by decide)
  refine lv_aload_n hx hb dX6_init_24 rfl (lv_at hl 0 rfl) ?_
  refine lv_null hx hb dX6_init_25 ?_
  refine r_put C hM kh0 f_X6_25 (fun r h => by cases h; rfl) rfl rfl (mPut.Rf (ci := 6) (k := 5) (x := none) rfl) dX6_init_26 (fun H locs hM => ?_)
  have hM : mH D H0 (pR (pR (pI (pI (pI S 601 h0 0) 602 h0 (-1)) 603 h0 0) 604 h0 none) 605 h0 none) kc ns H locs := hM
  have hI : CI (xl x h0 [600]) u tl rho (pR (pR (pI (pI (pI S 601 h0 0) 602 h0 (-1)) 603 h0 0) 604 h0 none) 605 h0 none) := CI.putR (ci := 6) (k := 5) hI kh0 (fun z h => by cases h) (Or.inl rfl) (by decide) (by decide) (by decide)
  refine lv_aload_n hx hb dX6_init_29 rfl (lv_at hl 0 rfl) ?_
  refine r_new (ci := 10) C hM rfl k_X6_28 in_X10 ini_X10 (by decide) (by decide) dX6_init_30 (fun qv1 H zqv1 hM => ?_)
  have hM : mH D H0 (nO (pR (pR (pI (pI (pI S 601 h0 0) 602 h0 (-1)) 603 h0 0) 604 h0 none) 605 h0 none) qv1 10) (kc + 1) (ns + 8) H locs := hM
  have kh0 : mK (nO (pR (pR (pI (pI (pI S 601 h0 0) 602 h0 (-1)) 603 h0 0) 604 h0 none) 605 h0 none) qv1 10) h0 = 7 := (mX.O (S := (pR (pR (pI (pI (pI S 601 h0 0) 602 h0 (-1)) 603 h0 0) 604 h0 none) 605 h0 none)) (a := qv1) (ci := 10) zqv1).k kh0
  have kh1 : mK (nO (pR (pR (pI (pI (pI S 601 h0 0) 602 h0 (-1)) 603 h0 0) 604 h0 none) 605 h0 none) qv1 10) h1 = 10 := (mX.O (S := (pR (pR (pI (pI (pI S 601 h0 0) 602 h0 (-1)) 603 h0 0) 604 h0 none) 605 h0 none)) (a := qv1) (ci := 10) zqv1).k kh1
  have kqv1 : mK (nO (pR (pR (pI (pI (pI S 601 h0 0) 602 h0 (-1)) 603 h0 0) 604 h0 none) 605 h0 none) qv1 10) qv1 = 11 := kO
  have hX := hX.trans (mX.O (ci := 10) zqv1)
  have hI := CI.newO (ci := 10) hI zqv1 (by decide) (by decide)
  have hI : CI (xl (xl x h0 [600]) qv1 [1000]) u tl rho (nO (pR (pR (pI (pI (pI S 601 h0 0) 602 h0 (-1)) 603 h0 0) 604 h0 none) 605 h0 none) qv1 10) := CI.todo (ci := 10) hI kqv1 (by decide)
  refine lv_dup hx hb dX6_init_33 rfl ?_
  refine lv_aload_n hx hb dX6_init_34 rfl (lv_at hl 1 rfl) ?_
  refine r_IN (As := [.ref h1]) (rest := [.ref qv1, .ref h0]) C hM (c_X10_init l D H0 (nO (pR (pR (pI (pI (pI S 601 h0 0) 602 h0 (-1)) 603 h0 0) 604 h0 none) 605 h0 none) qv1 10) (kc + 1) (ns + 8) qv1 h1 hI kqv1 kh1) i_X10_init m_X6_30 rfl hl.1 rfl (Nat.le_of_ble_eq_true rfl) ⟨by decide, by decide⟩ ⟨by decide, by decide⟩ dX6_init_35 (fun uv5 Sv2 kv3 nv4 H locs pv6 hM => ?_)
  obtain ⟨rfl, rfl, hx9, hI⟩ := pv6
  have kh0 : mK Sv2 h0 = 7 := (hx9).k kh0
  have kh1 : mK Sv2 h1 = 10 := (hx9).k kh1
  have kqv1 : mK Sv2 qv1 = 11 := (hx9).k kqv1
  have hX := hX.trans hx9
  refine W.eq (g2 := F0 m 38 ls [.ref qv1, .ref h0]) rfl ?_
  refine r_putF C hM kh0 f_X6_33 (fun r h => by cases h; exact ⟨rfl, rfl⟩) hnm rfl rfl (mPut.Rf (ci := 6) (k := 0) (x := (some qv1)) rfl) dX6_init_38 (fun H locs hM => ?_)
  have hM : mH D H0 (pR Sv2 600 h0 (some qv1)) ((kc + 1) + 0) ((ns + 8) + 0) H locs := hM
  have hI : CI (xl x h0 []) u tl rho (pR Sv2 600 h0 (some qv1)) := CI.fill (ci := 6) (k := 0) hI kh0 kqv1 (fun h => absurd rfl h) (by decide) (by decide) (by decide) (by decide)
  refine W.widen (k := 1) (n := 8) (by first | decide | omega) (by first | decide | omega) ?_
  exact r_retV C hr hlk hM (⟨rfl, rfl, hX, CI.full hI⟩) dX6_init_41
set_option maxHeartbeats 4000000 in
set_option maxRecDepth 100000 in
theorem c_X4_init (l : Launch) (D : gD) (H0 : gB) (S : Mem) (kc ns : Nat) (h0 : Nat) {x : Nat → Nat → Prop} {u : Nat} {tl : Int} {rho : Nat × Nat} (hI : CI (xl x h0 [400]) u tl rho S) (kh0 : mK S h0 = 5)  : Met l yX4_init (wsU yX4_init cX4_init 1 none) ({ frames := 1, cells := 1, slots := 60, locals := 20 } : Room) (mP D H0 S kc ns [.ref h0]) (mQ D H0 gV (fun r S1 k1 n1 => kc + 1 = k1 ∧ ns + 60 = n1 ∧ mX S S1 ∧ CI x u tl rho S1 ∧ mI S1 401 h0 = 0)) 1 60 (mF H0) := by
  refine r_met (own := RX4) (by decide +kernel) rfl (Nat.le_of_ble_eq_true rfl) ?_
  intro p e s m args below meth c C hr hlk hnm H ls hl hM
  obtain ⟨hx, hb, hml, hown, hts, -, -⟩ := id C
  have hl : lv_has ls 1 [(0, .ref h0)] := hl
  have hI0 := hI
  have hX : mX S S := mX.rf
  have t_0 : (0 : Int32).toInt = 0 := by decide
  have t_60 : (60 : Int32).toInt = 60 := by decide
  refine lv_aload_n hx hb dX4_init_0 rfl (lv_at hl 0 rfl) ?_
  refine W.objInit hx hb hown (hts _ m_X4_3) (hts _ oi_inst) (hts _ oi_code) rfl (by rw [hml]; exact hl.1) rfl dX4_init_1 (Nat.le_of_ble_eq_true rfl) (Nat.le_of_ble_eq_true rfl) ?_
  refine W.eq (g2 := F0 m 4 ls []) rfl ?_
  refine lv_aload_n hx hb dX4_init_4 rfl (lv_at hl 0 rfl) ?_
  refine lv_bipush (v := 60) hx hb dX4_init_5 (by decide) ?_
  refine r_newq (t := 0) (N' := 60) C hM (by decide) rfl k_X4_9 C.2.2.2.2.2.1.2.1 (by decide) (by decide) (by decide) (by decide) (by decide) dX4_init_7 (fun qv1 H zqv1 hM => ?_)
  have hM : mH D H0 (nA S qv1 4 60) (kc + 1) (ns + 60) H [] := hM
  have kh0 : mK (nA S qv1 4 60) h0 = 5 := (mX.A (S := S) (a := qv1) (t := 4) (n := 60) zqv1).k kh0
  have kqv1 : mK (nA S qv1 4 60) qv1 = 25 := kA
  have nqv1 : 60 ≠ 0 → mN (nA S qv1 4 60) qv1 = 60 := fun _ => nAn
  have hX := hX.trans (mX.A (t := 4) (n := 60) zqv1)
  have hI := CI.newA (t := 4) (n := 60) hI zqv1 (by decide)
  refine r_putF C hM kh0 f_X4_11 (fun r h => by cases h; exact ⟨rfl, rfl⟩) hnm rfl rfl (mPut.Rf (ci := 4) (k := 0) (x := (some qv1)) rfl) dX4_init_10 (fun H locs hM => ?_)
  have hM : mH D H0 (pR (nA S qv1 4 60) 400 h0 (some qv1)) (kc + 1) (ns + 60) H locs := hM
  have hI : CI (xl x h0 []) u tl rho (pR (nA S qv1 4 60) 400 h0 (some qv1)) := CI.fill (ci := 4) (k := 0) hI kh0 kqv1 nqv1 (by decide) (by decide) (by decide) (by decide)
  refine lv_aload_n hx hb dX4_init_13 rfl (lv_at hl 0 rfl) ?_
  refine lv_iconst (v := 0) hx hb dX4_init_14 (by decide) ?_
  refine r_put C hM kh0 f_X4_17 (fun r h => by cases h; rfl) rfl rfl (mPut.I (ci := 4) (k := 1) rfl) dX4_init_15 (fun H locs hM => ?_)
  have hM : mH D H0 (pI (pR (nA S qv1 4 60) 400 h0 (some qv1)) 401 h0 0) (kc + 1) (ns + 60) H locs := hM
  have hI := CI.p401 (a := h0) (v := 0) hI ⟨by omega, by omega⟩
  refine W.widen (k := 1) (n := 60) (by first | decide | omega) (by first | decide | omega) ?_
  exact r_retV C hr hlk hM (⟨rfl, rfl, hX, CI.full hI, by simp [mI, up2]⟩) dX4_init_18
set_option maxHeartbeats 4000000 in
set_option maxRecDepth 100000 in
theorem c_X1_init (l : Launch) (D : gD) (H0 : gB) (S : Mem) (kc ns : Nat) (h0 : Nat) {x : Nat → Nat → Prop} {u : Nat} {tl : Int} {rho : Nat × Nat} (hI : CI (xl x h0 []) u tl rho S) (kh0 : mK S h0 = 2)  : Met l yX1_init (wsU yX1_init cX1_init 1 none) ({ frames := 1, cells := 0, slots := 0, locals := 20 } : Room) (mP D H0 S kc ns [.ref h0]) (mQ D H0 gV (fun r S1 k1 n1 => kc + 0 = k1 ∧ ns + 0 = n1 ∧ mX S S1 ∧ CI x u tl rho S1)) 0 0 (mF H0) := by
  refine r_met (own := RX1) (by decide +kernel) rfl (Nat.le_of_ble_eq_true rfl) ?_
  intro p e s m args below meth c C hr hlk hnm H ls hl hM
  obtain ⟨hx, hb, hml, hown, hts, -, -⟩ := id C
  have hl : lv_has ls 1 [(0, .ref h0)] := hl
  have hI0 := hI
  have hX : mX S S := mX.rf
  have t_m1 : (-1 : Int32).toInt = -1 := by decide
  have t_0 : (0 : Int32).toInt = 0 := by decide
  refine lv_aload_n hx hb dX1_init_0 rfl (lv_at hl 0 rfl) ?_
  refine W.objInit hx hb hown (hts _ m_X1_3) (hts _ oi_inst) (hts _ oi_code) rfl (by rw [hml]; exact hl.1) rfl dX1_init_1 (Nat.le_of_ble_eq_true rfl) (Nat.le_of_ble_eq_true rfl) ?_
  refine W.eq (g2 := F0 m 4 ls []) rfl ?_
  refine lv_aload_n hx hb dX1_init_4 rfl (lv_at hl 0 rfl) ?_
  refine lv_null hx hb dX1_init_5 ?_
  refine r_put C hM kh0 f_X1_9 (fun r h => by cases h; rfl) rfl rfl (mPut.Rf (ci := 1) (k := 0) (x := none) rfl) dX1_init_6 (fun H locs hM => ?_)
  have hM : mH D H0 (pR S 100 h0 none) kc ns H locs := hM
  have hI : CI (xl x h0 []) u tl rho (pR S 100 h0 none) := CI.putR (ci := 1) (k := 0) hI kh0 (fun z h => by cases h) (Or.inl rfl) (by decide) (by decide) (by decide)
  refine lv_aload_n hx hb dX1_init_9 rfl (lv_at hl 0 rfl) ?_
  refine lv_null hx hb dX1_init_10 ?_
  refine r_put C hM kh0 f_X1_15 (fun r h => by cases h; rfl) rfl rfl (mPut.Rf (ci := 1) (k := 1) (x := none) rfl) dX1_init_11 (fun H locs hM => ?_)
  have hM : mH D H0 (pR (pR S 100 h0 none) 101 h0 none) kc ns H locs := hM
  have hI : CI (xl x h0 []) u tl rho (pR (pR S 100 h0 none) 101 h0 none) := CI.putR (ci := 1) (k := 1) hI kh0 (fun z h => by cases h) (Or.inl rfl) (by decide) (by decide) (by decide)
  refine lv_aload_n hx hb dX1_init_14 rfl (lv_at hl 0 rfl) ?_
  refine lv_iconst (v := -1) hx hb dX1_init_15 (by decide) ?_
  refine r_put C hM kh0 f_X1_18 (fun r h => by cases h; rfl) rfl rfl (mPut.I (ci := 1) (k := 2) rfl) dX1_init_16 (fun H locs hM => ?_)
  have hM : mH D H0 (pI (pR (pR S 100 h0 none) 101 h0 none) 102 h0 (-1)) kc ns H locs := hM
  have hI := hI.fe (fEq.I (S := (pR (pR S 100 h0 none) 101 h0 none)) (f := 102) (a := h0) (v := (-1)) (by decide))
  refine lv_aload_n hx hb dX1_init_19 rfl (lv_at hl 0 rfl) ?_
  refine lv_iconst (v := -1) hx hb dX1_init_20 (by decide) ?_
  refine r_put C hM kh0 f_X1_22 (fun r h => by cases h; rfl) rfl rfl (mPut.I (ci := 1) (k := 3) rfl) dX1_init_21 (fun H locs hM => ?_)
  have hM : mH D H0 (pI (pI (pR (pR S 100 h0 none) 101 h0 none) 102 h0 (-1)) 103 h0 (-1)) kc ns H locs := hM
  have hI := hI.fe (fEq.I (S := (pI (pR (pR S 100 h0 none) 101 h0 none) 102 h0 (-1))) (f := 103) (a := h0) (v := (-1)) (by decide))
  exact r_retV C hr hlk hM (⟨rfl, rfl, hX, CI.full hI⟩) dX1_init_24
set_option maxHeartbeats 4000000 in
set_option maxRecDepth 100000 in
theorem c_X2_init (l : Launch) (D : gD) (H0 : gB) (S : Mem) (kc ns : Nat) (h0 : Nat) (h1 : Nat) {x : Nat → Nat → Prop} {u : Nat} {tl : Int} {rho : Nat × Nat} (hI : CI (xl x h0 [200, 201, 202]) u tl rho S) (kh0 : mK S h0 = 3) (kh1 : mK S h1 = 21) (nh1 : 3721 ≠ 0 → mN S h1 = 3721) : Met l yX2_init (wsU yX2_init cX2_init 2 none) ({ frames := 1, cells := 2, slots := 3660, locals := 20 } : Room) (mP D H0 S kc ns [.ref h0, .ref h1]) (mQ D H0 gV (fun r S1 k1 n1 => kc + 2 = k1 ∧ ns + 3660 = n1 ∧ mX S S1 ∧ CI x u tl rho S1 ∧ (∀ b, mK S b ≠ 0 → mN S1 b = mN S b) ∧ (∀ b i, mK S b ≠ 0 → aR S1 b i = aR S b i) ∧ ∀ f b, b ≠ h0 → mI S1 f b = mI S f b ∧ mR S1 f b = mR S f b)) 2 3660 (mF H0) := by
  refine r_met (own := RX2) (by decide +kernel) rfl (Nat.le_of_ble_eq_true rfl) ?_
  intro p e s m args below meth c C hr hlk hnm H ls hl hM
  obtain ⟨hx, hb, hml, hown, hts, -, -⟩ := id C
  have hl : lv_has ls 2 [(0, .ref h0), (1, .ref h1)] := hl
  have hI0 := hI
  have hX : mX S S := mX.rf
  have t_0 : (0 : Int32).toInt = 0 := by decide
  have t_60 : (60 : Int32).toInt = 60 := by decide
  have t_3600 : (3600 : Int32).toInt = 3600 := by decide
  refine lv_aload_n hx hb dX2_init_0 rfl (lv_at hl 0 rfl) ?_
  refine W.objInit hx hb hown (hts _ m_X2_3) (hts _ oi_inst) (hts _ oi_code) rfl (by rw [hml]; exact hl.1) rfl dX2_init_1 (Nat.le_of_ble_eq_true rfl) (Nat.le_of_ble_eq_true rfl) ?_
  refine W.eq (g2 := F0 m 4 ls []) rfl ?_
  refine lv_aload_n hx hb dX2_init_4 rfl (lv_at hl 0 rfl) ?_
  refine lv_sipush (v := 3600) hx hb dX2_init_5 (by decide) ?_
  refine r_newI (N' := 3600) C hM ac_int (by decide) (by decide) (by decide) (by decide) (by decide) dX2_init_8 (fun qv1 H zqv1 hM => ?_)
  have hM : mH D H0 (nA S qv1 0 3600) (kc + 1) (ns + 3600) H [] := hM
  have nh1 : 3721 ≠ 0 → mN (nA S qv1 0 3600) h1 = 3721 := fun h => (nX9 zqv1 kh1).trans (nh1 h)
  have kh0 : mK (nA S qv1 0 3600) h0 = 3 := (mX.A (S := S) (a := qv1) (t := 0) (n := 3600) zqv1).k kh0
  have kh1 : mK (nA S qv1 0 3600) h1 = 21 := (mX.A (S := S) (a := qv1) (t := 0) (n := 3600) zqv1).k kh1
  have kqv1 : mK (nA S qv1 0 3600) qv1 = 21 := kA
  have nqv1 : 3600 ≠ 0 → mN (nA S qv1 0 3600) qv1 = 3600 := fun _ => nAn
  have hX := hX.trans (mX.A (t := 0) (n := 3600) zqv1)
  have hI := CI.newA (t := 0) (n := 3600) hI zqv1 (by decide)
  refine r_putF C hM kh0 f_X2_9 (fun r h => by cases h; exact ⟨rfl, rfl⟩) hnm rfl rfl (mPut.Rf (ci := 2) (k := 1) (x := (some qv1)) rfl) dX2_init_10 (fun H locs hM => ?_)
  have hM : mH D H0 (pR (nA S qv1 0 3600) 201 h0 (some qv1)) (kc + 1) (ns + 3600) H locs := hM
  have hI : CI (xl x h0 [200, 202]) u tl rho (pR (nA S qv1 0 3600) 201 h0 (some qv1)) := CI.fill (ci := 2) (k := 1) hI kh0 kqv1 nqv1 (by decide) (by decide) (by decide) (by decide)
  refine lv_aload_n hx hb dX2_init_13 rfl (lv_at hl 0 rfl) ?_
  refine lv_bipush (v := 60) hx hb dX2_init_14 (by decide) ?_
  refine r_newZ (N' := 60) C hM ac_boolean (by decide) (by decide) (by decide) (by decide) (by decide) dX2_init_16 (fun qv2 H zqv2 hM => ?_)
  have hM : mH D H0 (nA (pR (nA S qv1 0 3600) 201 h0 (some qv1)) qv2 3 60) ((kc + 1) + 1) ((ns + 3600) + 60) H locs := hM
  have nh1 : 3721 ≠ 0 → mN (nA (pR (nA S qv1 0 3600) 201 h0 (some qv1)) qv2 3 60) h1 = 3721 := fun h => (nX9 zqv2 kh1).trans (nh1 h)
  have kh0 : mK (nA (pR (nA S qv1 0 3600) 201 h0 (some qv1)) qv2 3 60) h0 = 3 := (mX.A (S := (pR (nA S qv1 0 3600) 201 h0 (some qv1))) (a := qv2) (t := 3) (n := 60) zqv2).k kh0
  have kh1 : mK (nA (pR (nA S qv1 0 3600) 201 h0 (some qv1)) qv2 3 60) h1 = 21 := (mX.A (S := (pR (nA S qv1 0 3600) 201 h0 (some qv1))) (a := qv2) (t := 3) (n := 60) zqv2).k kh1
  have kqv2 : mK (nA (pR (nA S qv1 0 3600) 201 h0 (some qv1)) qv2 3 60) qv2 = 24 := kA
  have nqv2 : 60 ≠ 0 → mN (nA (pR (nA S qv1 0 3600) 201 h0 (some qv1)) qv2 3 60) qv2 = 60 := fun _ => nAn
  have hX := hX.trans (mX.A (t := 3) (n := 60) zqv2)
  have hI := CI.newA (t := 3) (n := 60) hI zqv2 (by decide)
  refine r_putF C hM kh0 f_X2_15 (fun r h => by cases h; exact ⟨rfl, rfl⟩) hnm rfl rfl (mPut.Rf (ci := 2) (k := 2) (x := (some qv2)) rfl) dX2_init_18 (fun H locs hM => ?_)
  have hM : mH D H0 (pR (nA (pR (nA S qv1 0 3600) 201 h0 (some qv1)) qv2 3 60) 202 h0 (some qv2)) ((kc + 1) + 1) ((ns + 3600) + 60) H locs := hM
  have hI : CI (xl x h0 [200]) u tl rho (pR (nA (pR (nA S qv1 0 3600) 201 h0 (some qv1)) qv2 3 60) 202 h0 (some qv2)) := CI.fill (ci := 2) (k := 2) hI kh0 kqv2 nqv2 (by decide) (by decide) (by decide) (by decide)
  refine lv_aload_n hx hb dX2_init_21 rfl (lv_at hl 0 rfl) ?_
  refine lv_null hx hb dX2_init_22 ?_
  refine r_put C hM kh0 f_X2_19 (fun r h => by cases h; rfl) rfl rfl (mPut.Rf (ci := 2) (k := 3) (x := none) rfl) dX2_init_23 (fun H locs hM => ?_)
  have hM : mH D H0 (pR (pR (nA (pR (nA S qv1 0 3600) 201 h0 (some qv1)) qv2 3 60) 202 h0 (some qv2)) 203 h0 none) ((kc + 1) + 1) ((ns + 3600) + 60) H locs := hM
  have hI : CI (xl x h0 [200]) u tl rho (pR (pR (nA (pR (nA S qv1 0 3600) 201 h0 (some qv1)) qv2 3 60) 202 h0 (some qv2)) 203 h0 none) := CI.putR (ci := 2) (k := 3) hI kh0 (fun z h => by cases h) (Or.inl rfl) (by decide) (by decide) (by decide)
  refine lv_aload_n hx hb dX2_init_26 rfl (lv_at hl 0 rfl) ?_
  refine lv_null hx hb dX2_init_27 ?_
  refine r_put C hM kh0 f_X2_23 (fun r h => by cases h; rfl) rfl rfl (mPut.Rf (ci := 2) (k := 4) (x := none) rfl) dX2_init_28 (fun H locs hM => ?_)
  have hM : mH D H0 (pR (pR (pR (nA (pR (nA S qv1 0 3600) 201 h0 (some qv1)) qv2 3 60) 202 h0 (some qv2)) 203 h0 none) 204 h0 none) ((kc + 1) + 1) ((ns + 3600) + 60) H locs := hM
  have hI : CI (xl x h0 [200]) u tl rho (pR (pR (pR (nA (pR (nA S qv1 0 3600) 201 h0 (some qv1)) qv2 3 60) 202 h0 (some qv2)) 203 h0 none) 204 h0 none) := CI.putR (ci := 2) (k := 4) hI kh0 (fun z h => by cases h) (Or.inl rfl) (by decide) (by decide) (by decide)
  refine lv_aload_n hx hb dX2_init_31 rfl (lv_at hl 0 rfl) ?_
  refine lv_aload_n hx hb dX2_init_32 rfl (lv_at hl 1 rfl) ?_
  refine r_putF C hM kh0 f_X2_26 (fun r h => by cases h; exact ⟨rfl, rfl⟩) hnm rfl rfl (mPut.Rf (ci := 2) (k := 0) (x := (some h1)) rfl) dX2_init_33 (fun H locs hM => ?_)
  have hM : mH D H0 (pR (pR (pR (pR (nA (pR (nA S qv1 0 3600) 201 h0 (some qv1)) qv2 3 60) 202 h0 (some qv2)) 203 h0 none) 204 h0 none) 200 h0 (some h1)) ((kc + 1) + 1) ((ns + 3600) + 60) H locs := hM
  have hI : CI (xl x h0 []) u tl rho (pR (pR (pR (pR (nA (pR (nA S qv1 0 3600) 201 h0 (some qv1)) qv2 3 60) 202 h0 (some qv2)) 203 h0 none) 204 h0 none) 200 h0 (some h1)) := CI.fill (ci := 2) (k := 0) hI kh0 kh1 nh1 (by decide) (by decide) (by decide) (by decide)
  refine W.widen (k := 2) (n := 3660) (by first | decide | omega) (by first | decide | omega) ?_
  exact r_retV C hr hlk hM (⟨rfl, rfl, hX, CI.full hI, fun b hb => by have e1 : b ≠ qv1 := fun z => hb (z ▸ zqv1); have e2 : b ≠ qv2 := fun z => hb ((mX.A (t := 0) (n := 3600) zqv1 b hb).symm.trans (z ▸ zqv2)); show va_up (va_up (mN S) qv1 3600) qv2 60 b = mN S b; rw [va_up_ne _ _ e2, va_up_ne _ _ e1], fun b i hb => by have e1 : b ≠ qv1 := fun z => hb (z ▸ zqv1); have e2 : b ≠ qv2 := fun z => hb ((mX.A (t := 0) (n := 3600) zqv1 b hb).symm.trans (z ▸ zqv2)); show cl1 (cl1 (aR S) qv1 none) qv2 none b i = aR S b i; simp [cl1, e1, e2], fun f b hb => ⟨rfl, by simp [mR, up2, hb]⟩⟩) dX2_init_36
set_option maxHeartbeats 4000000 in
set_option maxRecDepth 100000 in
theorem c_X3_init (l : Launch) (D : gD) (H0 : gB) (S : Mem) (kc ns : Nat) (h0 : Nat) (h1 : Nat) (i0 i1 i2 : Int32) {x : Nat → Nat → Prop} {u : Nat} {tl : Int} {rho : Nat × Nat} (hI : CI (xl x h0 [300]) u tl rho S) (kh0 : mK S h0 = 4) (kh1 : mK S h1 = 6) : Met l yX3_init (wsU yX3_init cX3_init 5 none) ({ frames := 1, cells := 0, slots := 0, locals := 20 } : Room) (mP D H0 S kc ns [.ref h0, .ref h1, .int i0, .int i1, .int i2]) (mQ D H0 gV (fun r S1 k1 n1 => kc + 0 = k1 ∧ ns + 0 = n1 ∧ mX S S1 ∧ CI x u tl rho S1)) 0 0 (mF H0) := by
  refine r_met (own := RX3) (by decide +kernel) rfl (Nat.le_of_ble_eq_true rfl) ?_
  intro p e s m args below meth c C hr hlk hnm H ls hl hM
  obtain ⟨hx, hb, hml, hown, hts, -, -⟩ := id C
  have hl : lv_has ls 5 [(0, .ref h0), (1, .ref h1), (2, .int i0), (3, .int i1), (4, .int i2)] := hl
  have hI0 := hI
  have hX : mX S S := mX.rf
  have t_0 : (0 : Int32).toInt = 0 := by decide
  refine lv_aload_n hx hb dX3_init_0 rfl (lv_at hl 0 rfl) ?_
  refine W.objInit hx hb hown (hts _ m_X3_3) (hts _ oi_inst) (hts _ oi_code) rfl (by rw [hml]; exact hl.1) rfl dX3_init_1 (Nat.le_of_ble_eq_true rfl) (Nat.le_of_ble_eq_true rfl) ?_
  refine W.eq (g2 := F0 m 4 ls []) rfl ?_
  refine lv_aload_n hx hb dX3_init_4 rfl (lv_at hl 0 rfl) ?_
  refine lv_aload_n hx hb dX3_init_5 rfl (lv_at hl 1 rfl) ?_
  refine r_putF C hM kh0 f_X3_9 (fun r h => by cases h; exact ⟨rfl, rfl⟩) hnm rfl rfl (mPut.Rf (ci := 3) (k := 0) (x := (some h1)) rfl) dX3_init_6 (fun H locs hM => ?_)
  have hM : mH D H0 (pR S 300 h0 (some h1)) kc ns H locs := hM
  have hI : CI (xl x h0 []) u tl rho (pR S 300 h0 (some h1)) := CI.fill (ci := 3) (k := 0) hI kh0 kh1 (fun h => absurd rfl h) (by decide) (by decide) (by decide) (by decide)
  refine lv_aload_n hx hb dX3_init_9 rfl (lv_at hl 0 rfl) ?_
  refine lv_iload_n hx hb dX3_init_10 rfl (lv_at hl 2 rfl) ?_
  refine r_putF C hM kh0 f_X3_15 (fun r h => by cases h; exact ⟨rfl, rfl⟩) hnm rfl rfl (mPut.I (ci := 3) (k := 1) rfl) dX3_init_11 (fun H locs hM => ?_)
  have hM : mH D H0 (pI (pR S 300 h0 (some h1)) 301 h0 i0) kc ns H locs := hM
  have hI := hI.fe (fEq.I (S := (pR S 300 h0 (some h1))) (f := 301) (a := h0) (v := i0) (by decide))
  refine lv_aload_n hx hb dX3_init_14 rfl (lv_at hl 0 rfl) ?_
  refine lv_iload_n hx hb dX3_init_15 rfl (lv_at hl 3 rfl) ?_
  refine r_putF C hM kh0 f_X3_19 (fun r h => by cases h; exact ⟨rfl, rfl⟩) hnm rfl rfl (mPut.I (ci := 3) (k := 2) rfl) dX3_init_16 (fun H locs hM => ?_)
  have hM : mH D H0 (pI (pI (pR S 300 h0 (some h1)) 301 h0 i0) 302 h0 i1) kc ns H locs := hM
  have hI := hI.fe (fEq.I (S := (pI (pR S 300 h0 (some h1)) 301 h0 i0)) (f := 302) (a := h0) (v := i1) (by decide))
  refine lv_aload_n hx hb dX3_init_19 rfl (lv_at hl 0 rfl) ?_
  refine lv_iload hx hb dX3_init_20 (lv_at hl 4 rfl) ?_
  refine r_putF C hM kh0 f_X3_22 (fun r h => by cases h; exact ⟨rfl, rfl⟩) hnm rfl rfl (mPut.I (ci := 3) (k := 3) rfl) dX3_init_22 (fun H locs hM => ?_)
  have hM : mH D H0 (pI (pI (pI (pR S 300 h0 (some h1)) 301 h0 i0) 302 h0 i1) 303 h0 i2) kc ns H locs := hM
  have hI := hI.fe (fEq.I (S := (pI (pI (pR S 300 h0 (some h1)) 301 h0 i0) 302 h0 i1)) (f := 303) (a := h0) (v := i2) (by decide))
  exact r_retV C hr hlk hM (⟨rfl, rfl, hX, CI.full hI⟩) dX3_init_25
set_option maxHeartbeats 4000000 in
set_option maxRecDepth 100000 in
theorem c_X0_init (l : Launch) (D : gD) (H0 : gB) (S : Mem) (kc ns : Nat) (h0 : Nat) (i0 : Int32) (h1 : Nat) (o0 : Option Nat) {x : Nat → Nat → Prop} {u : Nat} {tl : Int} {rho : Nat × Nat} (hI : CI (xl x h0 [1]) u tl rho S) (kh0 : mK S h0 = 1) (kh1 : mK S h1 = 6) (ko0 : ∀ q, o0 = some q → mK S q = 4) (hz0 : i0 = 0 ∨ i0 = 1) : Met l yX0_init (wsU yX0_init cX0_init 4 none) ({ frames := 1, cells := 0, slots := 0, locals := 20 } : Room) (mP D H0 S kc ns [.ref h0, .int i0, .ref h1, va_rf o0]) (mQ D H0 gV (fun r S1 k1 n1 => kc + 0 = k1 ∧ ns + 0 = n1 ∧ mX S S1 ∧ CI x u tl rho S1 ∧ (∀ b, mK S b ≠ 0 → mN S1 b = mN S b) ∧ ∀ f b, b ≠ h0 → mI S1 f b = mI S f b)) 0 0 (mF H0) := by
  refine r_met (own := RX0) (by decide +kernel) rfl (by simp [lg_sl, cat_rf, cat_i, cat_l, cat_a, cat_n]) ?_
  intro p e s m args below meth c C hr hlk hnm H ls hl hM
  obtain ⟨hx, hb, hml, hown, hts, -, -⟩ := id C
  have hl : lv_has ls 4 [(0, .ref h0), (1, .int i0), (2, .ref h1), (3, va_rf o0)] := by simpa [lv_args, cat_rf, cat_i, cat_l, cat_a, cat_n] using hl
  have hI0 := hI
  have hX : mX S S := mX.rf
  have t_0 : (0 : Int32).toInt = 0 := by decide
  refine lv_aload_n hx hb dX0_init_0 rfl (lv_at hl 0 rfl) ?_
  refine W.objInit hx hb hown (hts _ m_X0_1) (hts _ oi_inst) (hts _ oi_code) rfl (by rw [hml]; exact hl.1) rfl dX0_init_1 (Nat.le_of_ble_eq_true rfl) (Nat.le_of_ble_eq_true rfl) ?_
  refine W.eq (g2 := F0 m 4 ls []) rfl ?_
  refine lv_aload_n hx hb dX0_init_4 rfl (lv_at hl 0 rfl) ?_
  refine lv_iload_n hx hb dX0_init_5 rfl (lv_at hl 1 rfl) ?_
  refine r_putF C hM kh0 f_X0_7 (fun r h => by cases h; exact ⟨rfl, rfl⟩) hnm (nzb hz0) (fzb hz0) (mPut.I (ci := 0) (k := 0) rfl) dX0_init_6 (fun H locs hM => ?_)
  have hM : mH D H0 (pI S 0 h0 i0) kc ns H locs := hM
  have hI := hI.fe (fEq.I (S := S) (f := 0) (a := h0) (v := i0) (by decide))
  refine lv_aload_n hx hb dX0_init_9 rfl (lv_at hl 0 rfl) ?_
  refine lv_aload_n hx hb dX0_init_10 rfl (lv_at hl 2 rfl) ?_
  refine r_putF C hM kh0 f_X0_13 (fun r h => by cases h; exact ⟨rfl, rfl⟩) hnm rfl rfl (mPut.Rf (ci := 0) (k := 1) (x := (some h1)) rfl) dX0_init_11 (fun H locs hM => ?_)
  have hM : mH D H0 (pR (pI S 0 h0 i0) 1 h0 (some h1)) kc ns H locs := hM
  have hI : CI (xl x h0 []) u tl rho (pR (pI S 0 h0 i0) 1 h0 (some h1)) := CI.fill (ci := 0) (k := 1) hI kh0 kh1 (fun h => absurd rfl h) (by decide) (by decide) (by decide) (by decide)
  refine lv_aload_n hx hb dX0_init_14 rfl (lv_at hl 0 rfl) ?_
  refine lv_aload_nQ hx hb dX0_init_15 rfl (lv_at hl 3 rfl) ?_
  refine r_putF C hM kh0 f_X0_17 (fun r h => by cases h; exact ⟨rfl, rfl⟩) hnm (by cases o0 <;> rfl) (by cases o0 <;> rfl) (mPut.Rf (ci := 0) (k := 2) (x := o0) rfl) dX0_init_16 (fun H locs hM => ?_)
  have hM : mH D H0 (pR (pR (pI S 0 h0 i0) 1 h0 (some h1)) 2 h0 o0) kc ns H locs := hM
  have hI : CI (xl x h0 []) u tl rho (pR (pR (pI S 0 h0 i0) 1 h0 (some h1)) 2 h0 o0) := CI.putR (ci := 0) (k := 2) hI kh0 (fun z h => ⟨ko0 z h, fun h => absurd rfl h⟩) (Or.inl rfl) (by decide) (by decide) (by decide)
  exact r_retV C hr hlk hM (⟨rfl, rfl, hX, CI.full hI, fun _ _ => rfl, fun f b hb => by simp [mI, up2, hb]⟩) dX0_init_19
set_option maxHeartbeats 4000000 in
set_option maxRecDepth 100000 in
theorem c_X7_init (l : Launch) (D : gD) (H0 : gB) (S : Mem) (kc ns : Nat) (h0 : Nat) {x : Nat → Nat → Prop} {u : Nat} {tl : Int} {rho : Nat × Nat} (hI : CI (xl x h0 [700]) u tl rho S) (kh0 : mK S h0 = 8)  : Met l yX7_init (wsU yX7_init cX7_init 1 none) ({ frames := 1, cells := 1, slots := 40, locals := 20 } : Room) (mP D H0 S kc ns [.ref h0]) (mQ D H0 gV (fun r S1 k1 n1 => kc + 1 = k1 ∧ ns + 40 = n1 ∧ mX S S1 ∧ CI x u tl rho S1)) 1 40 (mF H0) := by
  refine r_met (own := RX7) (by decide +kernel) rfl (Nat.le_of_ble_eq_true rfl) ?_
  intro p e s m args below meth c C hr hlk hnm H ls hl hM
  obtain ⟨hx, hb, hml, hown, hts, -, -⟩ := id C
  have hl : lv_has ls 1 [(0, .ref h0)] := hl
  have hI0 := hI
  have hX : mX S S := mX.rf
  have t_0 : (0 : Int32).toInt = 0 := by decide
  have t_40 : (40 : Int32).toInt = 40 := by decide
  refine lv_aload_n hx hb dX7_init_0 rfl (lv_at hl 0 rfl) ?_
  refine W.objInit hx hb hown (hts _ m_X7_3) (hts _ oi_inst) (hts _ oi_code) rfl (by rw [hml]; exact hl.1) rfl dX7_init_1 (Nat.le_of_ble_eq_true rfl) (Nat.le_of_ble_eq_true rfl) ?_
  refine W.eq (g2 := F0 m 4 ls []) rfl ?_
  refine lv_aload_n hx hb dX7_init_4 rfl (lv_at hl 0 rfl) ?_
  refine lv_bipush (v := 40) hx hb dX7_init_5 (by decide) ?_
  refine r_newq (t := 0) (N' := 40) C hM (by decide) rfl k_X7_9 C.2.2.2.2.2.1.2.1 (by decide) (by decide) (by decide) (by decide) (by decide) dX7_init_7 (fun qv1 H zqv1 hM => ?_)
  have hM : mH D H0 (nA S qv1 4 40) (kc + 1) (ns + 40) H [] := hM
  have kh0 : mK (nA S qv1 4 40) h0 = 8 := (mX.A (S := S) (a := qv1) (t := 4) (n := 40) zqv1).k kh0
  have kqv1 : mK (nA S qv1 4 40) qv1 = 25 := kA
  have nqv1 : 40 ≠ 0 → mN (nA S qv1 4 40) qv1 = 40 := fun _ => nAn
  have hX := hX.trans (mX.A (t := 4) (n := 40) zqv1)
  have hI := CI.newA (t := 4) (n := 40) hI zqv1 (by decide)
  refine r_putF C hM kh0 f_X7_11 (fun r h => by cases h; exact ⟨rfl, rfl⟩) hnm rfl rfl (mPut.Rf (ci := 7) (k := 0) (x := (some qv1)) rfl) dX7_init_10 (fun H locs hM => ?_)
  have hM : mH D H0 (pR (nA S qv1 4 40) 700 h0 (some qv1)) (kc + 1) (ns + 40) H locs := hM
  have hI : CI (xl x h0 []) u tl rho (pR (nA S qv1 4 40) 700 h0 (some qv1)) := CI.fill (ci := 7) (k := 0) hI kh0 kqv1 nqv1 (by decide) (by decide) (by decide) (by decide)
  refine lv_aload_n hx hb dX7_init_13 rfl (lv_at hl 0 rfl) ?_
  refine lv_iconst (v := 0) hx hb dX7_init_14 (by decide) ?_
  refine r_put C hM kh0 f_X7_17 (fun r h => by cases h; rfl) rfl rfl (mPut.I (ci := 7) (k := 1) rfl) dX7_init_15 (fun H locs hM => ?_)
  have hM : mH D H0 (pI (pR (nA S qv1 4 40) 700 h0 (some qv1)) 701 h0 0) (kc + 1) (ns + 40) H locs := hM
  have hI := hI.fe (fEq.I (S := (pR (nA S qv1 4 40) 700 h0 (some qv1))) (f := 701) (a := h0) (v := 0) (by decide))
  refine lv_aload_n hx hb dX7_init_18 rfl (lv_at hl 0 rfl) ?_
  refine lv_iconst (v := 0) hx hb dX7_init_19 (by decide) ?_
  refine r_put C hM kh0 f_X7_21 (fun r h => by cases h; rfl) rfl rfl (mPut.I (ci := 7) (k := 2) rfl) dX7_init_20 (fun H locs hM => ?_)
  have hM : mH D H0 (pI (pI (pR (nA S qv1 4 40) 700 h0 (some qv1)) 701 h0 0) 702 h0 0) (kc + 1) (ns + 40) H locs := hM
  have hI := hI.fe (fEq.I (S := (pI (pR (nA S qv1 4 40) 700 h0 (some qv1)) 701 h0 0)) (f := 702) (a := h0) (v := 0) (by decide))
  refine lv_aload_n hx hb dX7_init_23 rfl (lv_at hl 0 rfl) ?_
  refine lv_null hx hb dX7_init_24 ?_
  refine r_put C hM kh0 f_X7_24 (fun r h => by cases h; rfl) rfl rfl (mPut.Rf (ci := 7) (k := 3) (x := none) rfl) dX7_init_25 (fun H locs hM => ?_)
  have hM : mH D H0 (pR (pI (pI (pR (nA S qv1 4 40) 700 h0 (some qv1)) 701 h0 0) 702 h0 0) 703 h0 none) (kc + 1) (ns + 40) H locs := hM
  have hI : CI (xl x h0 []) u tl rho (pR (pI (pI (pR (nA S qv1 4 40) 700 h0 (some qv1)) 701 h0 0) 702 h0 0) 703 h0 none) := CI.putR (ci := 7) (k := 3) hI kh0 (fun z h => by cases h) (Or.inl rfl) (by decide) (by decide) (by decide)
  refine lv_aload_n hx hb dX7_init_28 rfl (lv_at hl 0 rfl) ?_
  refine lv_iconst (v := 0) hx hb dX7_init_29 (by decide) ?_
  refine r_put C hM kh0 f_X7_28 (fun r h => by cases h; rfl) rfl rfl (mPut.I (ci := 7) (k := 4) rfl) dX7_init_30 (fun H locs hM => ?_)
  have hM : mH D H0 (pI (pR (pI (pI (pR (nA S qv1 4 40) 700 h0 (some qv1)) 701 h0 0) 702 h0 0) 703 h0 none) 704 h0 0) (kc + 1) (ns + 40) H locs := hM
  have hI := hI.fe (fEq.I (S := (pR (pI (pI (pR (nA S qv1 4 40) 700 h0 (some qv1)) 701 h0 0) 702 h0 0) 703 h0 none)) (f := 704) (a := h0) (v := 0) (by decide))
  refine lv_aload_n hx hb dX7_init_33 rfl (lv_at hl 0 rfl) ?_
  refine lv_iconst (v := 0) hx hb dX7_init_34 (by decide) ?_
  refine r_put C hM kh0 f_X7_31 (fun r h => by cases h; rfl) rfl rfl (mPut.I (ci := 7) (k := 5) rfl) dX7_init_35 (fun H locs hM => ?_)
  have hM : mH D H0 (pI (pI (pR (pI (pI (pR (nA S qv1 4 40) 700 h0 (some qv1)) 701 h0 0) 702 h0 0) 703 h0 none) 704 h0 0) 705 h0 0) (kc + 1) (ns + 40) H locs := hM
  have hI := CI.p705 (a := h0) (v := 0) hI ⟨by omega, by omega⟩
  refine W.widen (k := 1) (n := 40) (by first | decide | omega) (by first | decide | omega) ?_
  exact r_retV C hr hlk hM (⟨rfl, rfl, hX, CI.full hI⟩) dX7_init_38
set_option maxHeartbeats 4000000 in
set_option maxRecDepth 100000 in
theorem c_X8_init (l : Launch) (D : gD) (H0 : gB) (S : Mem) (kc ns : Nat) (h0 : Nat) {x : Nat → Nat → Prop} {u : Nat} {tl : Int} {rho : Nat × Nat} (hI : CI (xl x h0 [800, 801]) u tl rho S) (kh0 : mK S h0 = 9)  : Met l yX8_init (wsU yX8_init cX8_init 1 none) ({ frames := 1, cells := 2, slots := 262, locals := 20 } : Room) (mP D H0 S kc ns [.ref h0]) (mQ D H0 gV (fun r S1 k1 n1 => kc + 2 = k1 ∧ ns + 262 = n1 ∧ mX S S1 ∧ CI x u tl rho S1)) 2 262 (mF H0) := by
  refine r_met (own := RX8) (by decide +kernel) rfl (Nat.le_of_ble_eq_true rfl) ?_
  intro p e s m args below meth c C hr hlk hnm H ls hl hM
  obtain ⟨hx, hb, hml, hown, hts, -, -⟩ := id C
  have hl : lv_has ls 1 [(0, .ref h0)] := hl
  have hI0 := hI
  have hX : mX S S := mX.rf
  have t_0 : (0 : Int32).toInt = 0 := by decide
  have t_6 : (6 : Int32).toInt = 6 := by decide
  have t_256 : (256 : Int32).toInt = 256 := by decide
  refine lv_aload_n hx hb dX8_init_0 rfl (lv_at hl 0 rfl) ?_
  refine W.objInit hx hb hown (hts _ m_X8_3) (hts _ oi_inst) (hts _ oi_code) rfl (by rw [hml]; exact hl.1) rfl dX8_init_1 (Nat.le_of_ble_eq_true rfl) (Nat.le_of_ble_eq_true rfl) ?_
  refine W.eq (g2 := F0 m 4 ls []) rfl ?_
  refine lv_aload_n hx hb dX8_init_4 rfl (lv_at hl 0 rfl) ?_
  refine lv_bipush (v := 6) hx hb dX8_init_5 (by decide) ?_
  refine r_newq (t := 0) (N' := 6) C hM (by decide) rfl k_X8_9 C.2.2.2.2.2.1.2.1 (by decide) (by decide) (by decide) (by decide) (by decide) dX8_init_7 (fun qv1 H zqv1 hM => ?_)
  have hM : mH D H0 (nA S qv1 4 6) (kc + 1) (ns + 6) H [] := hM
  have kh0 : mK (nA S qv1 4 6) h0 = 9 := (mX.A (S := S) (a := qv1) (t := 4) (n := 6) zqv1).k kh0
  have kqv1 : mK (nA S qv1 4 6) qv1 = 25 := kA
  have nqv1 : 6 ≠ 0 → mN (nA S qv1 4 6) qv1 = 6 := fun _ => nAn
  have hX := hX.trans (mX.A (t := 4) (n := 6) zqv1)
  have hI := CI.newA (t := 4) (n := 6) hI zqv1 (by decide)
  refine r_putF C hM kh0 f_X8_11 (fun r h => by cases h; exact ⟨rfl, rfl⟩) hnm rfl rfl (mPut.Rf (ci := 8) (k := 0) (x := (some qv1)) rfl) dX8_init_10 (fun H locs hM => ?_)
  have hM : mH D H0 (pR (nA S qv1 4 6) 800 h0 (some qv1)) (kc + 1) (ns + 6) H locs := hM
  have hI : CI (xl x h0 [801]) u tl rho (pR (nA S qv1 4 6) 800 h0 (some qv1)) := CI.fill (ci := 8) (k := 0) hI kh0 kqv1 nqv1 (by decide) (by decide) (by decide) (by decide)
  refine lv_aload_n hx hb dX8_init_13 rfl (lv_at hl 0 rfl) ?_
  refine lv_sipush (v := 256) hx hb dX8_init_14 (by decide) ?_
  refine r_newZ (N' := 256) C hM ac_boolean (by decide) (by decide) (by decide) (by decide) (by decide) dX8_init_17 (fun qv2 H zqv2 hM => ?_)
  have hM : mH D H0 (nA (pR (nA S qv1 4 6) 800 h0 (some qv1)) qv2 3 256) ((kc + 1) + 1) ((ns + 6) + 256) H locs := hM
  have kh0 : mK (nA (pR (nA S qv1 4 6) 800 h0 (some qv1)) qv2 3 256) h0 = 9 := (mX.A (S := (pR (nA S qv1 4 6) 800 h0 (some qv1))) (a := qv2) (t := 3) (n := 256) zqv2).k kh0
  have kqv2 : mK (nA (pR (nA S qv1 4 6) 800 h0 (some qv1)) qv2 3 256) qv2 = 24 := kA
  have nqv2 : 256 ≠ 0 → mN (nA (pR (nA S qv1 4 6) 800 h0 (some qv1)) qv2 3 256) qv2 = 256 := fun _ => nAn
  have hX := hX.trans (mX.A (t := 3) (n := 256) zqv2)
  have hI := CI.newA (t := 3) (n := 256) hI zqv2 (by decide)
  refine r_putF C hM kh0 f_X8_17 (fun r h => by cases h; exact ⟨rfl, rfl⟩) hnm rfl rfl (mPut.Rf (ci := 8) (k := 1) (x := (some qv2)) rfl) dX8_init_19 (fun H locs hM => ?_)
  have hM : mH D H0 (pR (nA (pR (nA S qv1 4 6) 800 h0 (some qv1)) qv2 3 256) 801 h0 (some qv2)) ((kc + 1) + 1) ((ns + 6) + 256) H locs := hM
  have hI : CI (xl x h0 []) u tl rho (pR (nA (pR (nA S qv1 4 6) 800 h0 (some qv1)) qv2 3 256) 801 h0 (some qv2)) := CI.fill (ci := 8) (k := 1) hI kh0 kqv2 nqv2 (by decide) (by decide) (by decide) (by decide)
  refine lv_aload_n hx hb dX8_init_22 rfl (lv_at hl 0 rfl) ?_
  refine lv_iconst (v := 0) hx hb dX8_init_23 (by decide) ?_
  refine r_put C hM kh0 f_X8_21 (fun r h => by cases h; rfl) rfl rfl (mPut.I (ci := 8) (k := 2) rfl) dX8_init_24 (fun H locs hM => ?_)
  have hM : mH D H0 (pI (pR (nA (pR (nA S qv1 4 6) 800 h0 (some qv1)) qv2 3 256) 801 h0 (some qv2)) 802 h0 0) ((kc + 1) + 1) ((ns + 6) + 256) H locs := hM
  have hI := CI.p802 (a := h0) (v := 0) hI ⟨by omega, by omega⟩
  refine lv_aload_n hx hb dX8_init_27 rfl (lv_at hl 0 rfl) ?_
  refine lv_iconst (v := 0) hx hb dX8_init_28 (by decide) ?_
  refine r_put C hM kh0 f_X8_25 (fun r h => by cases h; rfl) rfl rfl (mPut.I (ci := 8) (k := 3) rfl) dX8_init_29 (fun H locs hM => ?_)
  have hM : mH D H0 (pI (pI (pR (nA (pR (nA S qv1 4 6) 800 h0 (some qv1)) qv2 3 256) 801 h0 (some qv2)) 802 h0 0) 803 h0 0) ((kc + 1) + 1) ((ns + 6) + 256) H locs := hM
  have hI := hI.fe (fEq.I (S := (pI (pR (nA (pR (nA S qv1 4 6) 800 h0 (some qv1)) qv2 3 256) 801 h0 (some qv2)) 802 h0 0)) (f := 803) (a := h0) (v := 0) (by decide))
  refine W.widen (k := 2) (n := 262) (by first | decide | omega) (by first | decide | omega) ?_
  exact r_retV C hr hlk hM (⟨rfl, rfl, hX, CI.full hI⟩) dX8_init_32
