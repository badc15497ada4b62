set_option maxHeartbeats 4000000 in
set_option maxRecDepth 100000 in
theorem c_X5_init (l : Launch) (D : gD) (H0 : gB) (S : Mem) (kc ns : Nat) (h0 h1 : Nat) (j0 : Int64) (o0 o1 : Option Nat) {u : Nat} {tl : Int} {rho : Nat × Nat} (hI : CI (xl x0 h0 [500]) u tl rho S) (kh0 : mK S h0 = 6) (kh1 : mK S h1 = 5) (ko0 : ∀ q, o0 = some q → mK S q = 6) (ko1 : ∀ q, o1 = some q → mK S q = 6) (hcnt : (mI S 401 h1).toInt < 60) (hp0 : ∀ q, o0 = some q → (mI S 501 q).toInt < (mI S 401 h1).toInt ∧ q ≠ h0) (hp1 : ∀ q, o1 = some q → (mI S 501 q).toInt < (mI S 401 h1).toInt ∧ q ≠ h0) (hun : ∀ b, mK S b = 6 → mR S 503 b ≠ some h0 ∧ mR S 504 b ≠ some h0) : Met l yX5_init (wsU yX5_init cX5_init 6 none) ({ frames := 1, cells := 0, slots := 0, locals := 23 } : Room) (mP D H0 S kc ns [.ref h0, .ref h1, .long j0, va_rf o0, va_rf o1]) (mQ D H0 gV (fun r S1 k1 n1 => kc = k1 ∧ ns = n1 ∧ mK S1 = mK S ∧ CI x0 u tl rho S1 ∧ (∀ q, q ≠ h0 → mI S1 501 q = mI S 501 q) ∧ mI S1 501 h0 = mI S 401 h1 ∧ (∀ q, mI S1 401 q = mI S 401 q) ∧ ∀ f b, b ≠ h0 → mR S1 f b = mR S f b)) 0 0 (mF H0) := by
  refine r_met (own := RX5) (by decide +kernel) rfl (by simp [lg_sl, cat_rf, cat_i, cat_l, cat_a, cat_n]) ?_
  intro p e s m args below meth c C hr hlk hnm H ls hl hM
  obtain ⟨hx, hb, hml, hown, hts, -, -⟩ := id C
  have hl : lv_has ls 6 [(0, .ref h0), (1, .ref h1), (2, .long j0), (4, va_rf o0), (5, va_rf o1)] := by simpa [lv_args, cat_rf, cat_i, cat_l, cat_a, cat_n] using hl
  have hI0 := hI
  have hK9 : mK S = mK S := rfl
  have t_m1 : (-1 : Int32).toInt = -1 := by decide
  have t_0 : (0 : Int32).toInt = 0 := by decide
  have t_1 : (1 : Int32).toInt = 1 := by decide
  refine lv_aload_n hx hb dX5_init_0 rfl (lv_at hl 0 rfl) ?_
  refine W.objInit hx hb hown (hts _ m_X5_3) (hts _ oi_inst) (hts _ oi_code) rfl (by rw [hml]; exact hl.1) rfl dX5_init_1 (Nat.le_of_ble_eq_true rfl) (Nat.le_of_ble_eq_true rfl) ?_
  refine W.eq (g2 := F0 m 4 ls []) rfl ?_
  refine lv_aload_n hx hb dX5_init_4 rfl (lv_at hl 0 rfl) ?_
  refine lv_null hx hb dX5_init_5 ?_
  refine r_put C hM kh0 f_X5_9 (fun r h => by cases h; rfl) rfl rfl (mPut.Rf (ci := 5) (k := 8) (x := none) rfl) dX5_init_6 (fun H locs hM => ?_)
  have hM : mH D H0 (pR S 508 h0 none) kc ns H locs := hM
  have hI : CI (xl x0 h0 [500]) u tl rho (pR S 508 h0 none) := CI.putR (ci := 5) (k := 8) hI kh0 (fun z h => by cases h) (Or.inl rfl) (by decide) (by decide) (by decide)
  refine lv_aload_n hx hb dX5_init_9 rfl (lv_at hl 0 rfl) ?_
  refine lv_iconst (v := 0) hx hb dX5_init_10 (by decide) ?_
  refine r_put C hM kh0 f_X5_15 (fun r h => by cases h; rfl) rfl rfl (mPut.I (ci := 5) (k := 9) rfl) dX5_init_11 (fun H locs hM => ?_)
  have hM : mH D H0 (pI (pR S 508 h0 none) 509 h0 0) kc ns H locs := hM
  have hI := CI.p509 (a := h0) (v := 0) hI ⟨by omega, by omega⟩
  refine lv_aload_n hx hb dX5_init_14 rfl (lv_at hl 0 rfl) ?_
  refine lv_lconst (v := 0) hx hb dX5_init_15 (by decide) ?_
  refine r_put C hM kh0 f_X5_19 (fun r h => by cases h; rfl) rfl rfl (mPut.L (ci := 5) (k := 10) rfl) dX5_init_16 (fun H locs hM => ?_)
  have hM : mH D H0 (pL (pI (pR S 508 h0 none) 509 h0 0) 510 h0 0) kc ns H locs := hM
  have hI := hI.fe (fEq.L (S := (pI (pR S 508 h0 none) 509 h0 0)) (f := 510) (a := h0) (v := 0))
  refine lv_aload_n hx hb dX5_init_19 rfl (lv_at hl 0 rfl) ?_
  refine lv_lconst (v := 0) hx hb dX5_init_20 (by decide) ?_
  refine r_put C hM kh0 f_X5_23 (fun r h => by cases h; rfl) rfl rfl (mPut.L (ci := 5) (k := 11) rfl) dX5_init_21 (fun H locs hM => ?_)
  have hM : mH D H0 (pL (pL (pI (pR S 508 h0 none) 509 h0 0) 510 h0 0) 511 h0 0) kc ns H locs := hM
  have hI := hI.fe (fEq.L (S := (pL (pI (pR S 508 h0 none) 509 h0 0) 510 h0 0)) (f := 511) (a := h0) (v := 0))
  refine lv_aload_n hx hb dX5_init_24 rfl (lv_at hl 0 rfl) ?_
  refine lv_lconst (v := 0) hx hb dX5_init_25 (by decide) ?_
  refine r_put C hM kh0 f_X5_26 (fun r h => by cases h; rfl) rfl rfl (mPut.L (ci := 5) (k := 12) rfl) dX5_init_26 (fun H locs hM => ?_)
  have hM : mH D H0 (pL (pL (pL (pI (pR S 508 h0 none) 509 h0 0) 510 h0 0) 511 h0 0) 512 h0 0) kc ns H locs := hM
  have hI := hI.fe (fEq.L (S := (pL (pL (pI (pR S 508 h0 none) 509 h0 0) 510 h0 0) 511 h0 0)) (f := 512) (a := h0) (v := 0))
  refine lv_aload_n hx hb dX5_init_29 rfl (lv_at hl 0 rfl) ?_
  refine lv_iconst (v := -1) hx hb dX5_init_30 (by decide) ?_
  refine r_put C hM kh0 f_X5_29 (fun r h => by cases h; rfl) rfl rfl (mPut.I (ci := 5) (k := 13) rfl) dX5_init_31 (fun H locs hM => ?_)
  have hM : mH D H0 (pI (pL (pL (pL (pI (pR S 508 h0 none) 509 h0 0) 510 h0 0) 511 h0 0) 512 h0 0) 513 h0 (-1)) kc ns H locs := hM
  have hI := hI.fe (fEq.I (S := (pL (pL (pL (pI (pR S 508 h0 none) 509 h0 0) 510 h0 0) 511 h0 0) 512 h0 0)) (f := 513) (a := h0) (v := (-1)) (by decide))
  refine lv_aload_n hx hb dX5_init_34 rfl (lv_at hl 0 rfl) ?_
  refine lv_iconst (v := 0) hx hb dX5_init_35 (by decide) ?_
  refine r_put C hM kh0 f_X5_32 (fun r h => by cases h; rfl) (nzb (by decide)) (fzb (by decide)) (mPut.I (ci := 5) (k := 14) rfl) dX5_init_36 (fun H locs hM => ?_)
  have hM : mH D H0 (pI (pI (pL (pL (pL (pI (pR S 508 h0 none) 509 h0 0) 510 h0 0) 511 h0 0) 512 h0 0) 513 h0 (-1)) 514 h0 0) kc ns H locs := hM
  have hI := hI.fe (fEq.I (S := (pI (pL (pL (pL (pI (pR S 508 h0 none) 509 h0 0) 510 h0 0) 511 h0 0) 512 h0 0) 513 h0 (-1))) (f := 514) (a := h0) (v := 0) (by decide))
  refine lv_aload_n hx hb dX5_init_39 rfl (lv_at hl 0 rfl) ?_
  refine lv_iconst (v := 0) hx hb dX5_init_40 (by decide) ?_
  refine r_put C hM kh0 f_X5_36 (fun r h => by cases h; rfl) rfl rfl (mPut.I (ci := 5) (k := 15) rfl) dX5_init_41 (fun H locs hM => ?_)
  have hM : mH D H0 (pI (pI (pI (pL (pL (pL (pI (pR S 508 h0 none) 509 h0 0) 510 h0 0) 511 h0 0) 512 h0 0) 513 h0 (-1)) 514 h0 0) 515 h0 0) kc ns H locs := hM
  have hI := hI.fe (fEq.I (S := (pI (pI (pL (pL (pL (pI (pR S 508 h0 none) 509 h0 0) 510 h0 0) 511 h0 0) 512 h0 0) 513 h0 (-1)) 514 h0 0)) (f := 515) (a := h0) (v := 0) (by decide))
  refine lv_aload_n hx hb dX5_init_44 rfl (lv_at hl 0 rfl) ?_
  refine lv_iconst (v := 0) hx hb dX5_init_45 (by decide) ?_
  refine r_put C hM kh0 f_X5_39 (fun r h => by cases h; rfl) rfl rfl (mPut.I (ci := 5) (k := 16) rfl) dX5_init_46 (fun H locs hM => ?_)
  have hM : mH D H0 (pI (pI (pI (pI (pL (pL (pL (pI (pR S 508 h0 none) 509 h0 0) 510 h0 0) 511 h0 0) 512 h0 0) 513 h0 (-1)) 514 h0 0) 515 h0 0) 516 h0 0) kc ns H locs := hM
  have hI := hI.fe (fEq.I (S := (pI (pI (pI (pL (pL (pL (pI (pR S 508 h0 none) 509 h0 0) 510 h0 0) 511 h0 0) 512 h0 0) 513 h0 (-1)) 514 h0 0) 515 h0 0)) (f := 516) (a := h0) (v := 0) (by decide))
  refine lv_aload_n hx hb dX5_init_49 rfl (lv_at hl 0 rfl) ?_
  refine lv_aload_n hx hb dX5_init_50 rfl (lv_at hl 1 rfl) ?_
  refine r_putF C hM kh0 f_X5_42 (fun r h => by cases h; exact ⟨rfl, rfl⟩) hnm rfl rfl (mPut.Rf (ci := 5) (k := 0) (x := (some h1)) rfl) dX5_init_51 (fun H locs hM => ?_)
  have hM : mH D H0 (pR (pI (pI (pI (pI (pL (pL (pL (pI (pR S 508 h0 none) 509 h0 0) 510 h0 0) 511 h0 0) 512 h0 0) 513 h0 (-1)) 514 h0 0) 515 h0 0) 516 h0 0) 500 h0 (some h1)) kc ns H locs := hM
  have hI : CI (xl x0 h0 []) u tl rho (pR (pI (pI (pI (pI (pL (pL (pL (pI (pR S 508 h0 none) 509 h0 0) 510 h0 0) 511 h0 0) 512 h0 0) 513 h0 (-1)) 514 h0 0) 515 h0 0) 516 h0 0) 500 h0 (some h1)) := CI.fill (ci := 5) (k := 0) hI kh0 kh1 (fun h => absurd rfl h) (by decide) (by decide) (by decide) (by decide)
  refine lv_aload_n hx hb dX5_init_54 rfl (lv_at hl 0 rfl) ?_
  refine lv_lload_n hx hb dX5_init_55 rfl (lv_at hl 2 rfl) ?_
  refine r_putF C hM kh0 f_X5_46 (fun r h => by cases h; exact ⟨rfl, rfl⟩) hnm rfl rfl (mPut.L (ci := 5) (k := 2) rfl) dX5_init_56 (fun H locs hM => ?_)
  have hM : mH D H0 (pL (pR (pI (pI (pI (pI (pL (pL (pL (pI (pR S 508 h0 none) 509 h0 0) 510 h0 0) 511 h0 0) 512 h0 0) 513 h0 (-1)) 514 h0 0) 515 h0 0) 516 h0 0) 500 h0 (some h1)) 502 h0 j0) kc ns H locs := hM
  have hI := hI.fe (fEq.L (S := (pR (pI (pI (pI (pI (pL (pL (pL (pI (pR S 508 h0 none) 509 h0 0) 510 h0 0) 511 h0 0) 512 h0 0) 513 h0 (-1)) 514 h0 0) 515 h0 0) 516 h0 0) 500 h0 (some h1))) (f := 502) (a := h0) (v := j0))
  refine lv_aload_n hx hb dX5_init_59 rfl (lv_at hl 0 rfl) ?_
  refine lv_aloadQ hx hb dX5_init_60 (lv_at hl 3 rfl) ?_
  refine r_putF C hM kh0 f_X5_49 (fun r h => by cases h; exact ⟨rfl, rfl⟩) hnm (by cases o0 <;> rfl) (by cases o0 <;> rfl) (mPut.Rf (ci := 5) (k := 3) (x := o0) rfl) dX5_init_62 (fun H locs hM => ?_)
  have hM : mH D H0 (pR (pL (pR (pI (pI (pI (pI (pL (pL (pL (pI (pR S 508 h0 none) 509 h0 0) 510 h0 0) 511 h0 0) 512 h0 0) 513 h0 (-1)) 514 h0 0) 515 h0 0) 516 h0 0) 500 h0 (some h1)) 502 h0 j0) 503 h0 o0) kc ns H locs := hM
  refine lv_aload_n hx hb dX5_init_65 rfl (lv_at hl 0 rfl) ?_
  refine lv_aloadQ hx hb dX5_init_66 (lv_at hl 4 rfl) ?_
  refine r_putF C hM kh0 f_X5_52 (fun r h => by cases h; exact ⟨rfl, rfl⟩) hnm (by cases o1 <;> rfl) (by cases o1 <;> rfl) (mPut.Rf (ci := 5) (k := 4) (x := o1) rfl) dX5_init_68 (fun H locs hM => ?_)
  have hM : mH D H0 (pR (pR (pL (pR (pI (pI (pI (pI (pL (pL (pL (pI (pR S 508 h0 none) 509 h0 0) 510 h0 0) 511 h0 0) 512 h0 0) 513 h0 (-1)) 514 h0 0) 515 h0 0) 516 h0 0) 500 h0 (some h1)) 502 h0 j0) 503 h0 o0) 504 h0 o1) kc ns H locs := hM
  refine lv_aload_n hx hb dX5_init_71 rfl (lv_at hl 0 rfl) ?_
  refine lv_aload_n hx hb dX5_init_72 rfl (lv_at hl 1 rfl) ?_
  refine r_getN (ci := 4) (k := 1) (v := .int (mI (pR (pR (pL (pR (pI (pI (pI (pI (pL (pL (pL (pI (pR S 508 h0 none) 509 h0 0) 510 h0 0) 511 h0 0) 512 h0 0) 513 h0 (-1)) 514 h0 0) 515 h0 0) 516 h0 0) 500 h0 (some h1)) 502 h0 j0) 503 h0 o0) 504 h0 o1) 401 h1)) C hM kh1 f_X5_55 rfl dX5_init_73 ?_
  refine lv_topi (fun xv1 exv1 => ?_)
  have fxv1 := NI.g401 hI.2 kh1 exv1
  refine r_putF C hM kh0 f_X5_60 (fun r h => by cases h; exact ⟨rfl, rfl⟩) hnm rfl rfl (mPut.I (ci := 5) (k := 1) rfl) dX5_init_76 (fun H locs hM => ?_)
  have hM : mH D H0 (pI (pR (pR (pL (pR (pI (pI (pI (pI (pL (pL (pL (pI (pR S 508 h0 none) 509 h0 0) 510 h0 0) 511 h0 0) 512 h0 0) 513 h0 (-1)) 514 h0 0) 515 h0 0) 516 h0 0) 500 h0 (some h1)) 502 h0 j0) 503 h0 o0) 504 h0 o1) 501 h0 xv1) kc ns H locs := hM
  have hI : CI (xl x0 h0 []) u tl rho (pI (pR (pR (pL (pR (pI (pI (pI (pI (pL (pL (pL (pI (pR S 508 h0 none) 509 h0 0) 510 h0 0) 511 h0 0) 512 h0 0) 513 h0 (-1)) 514 h0 0) 515 h0 0) 516 h0 0) 500 h0 (some h1)) 502 h0 j0) 503 h0 o0) 504 h0 o1) 501 h0 xv1) := CI.born (a := h0) (o := o0) (o2 := o1) (v := xv1) hI kh0 hun ⟨by omega, by rw [exv1]; exact hcnt⟩ (fun q e => ⟨ko0 q e, by rw [exv1]; exact (hp0 q e).1, (hp0 q e).2⟩) (fun q e => ⟨ko1 q e, by rw [exv1]; exact (hp1 q e).1, (hp1 q e).2⟩)
  have hnum := exv1
  have hnv := (rfl : xv1 = xv1)
  refine lv_aload_n hx hb dX5_init_79 rfl (lv_at hl 0 rfl) ?_
  refine lv_aload_n hx hb dX5_init_80 rfl (lv_at hl 1 rfl) ?_
  refine lv_aload_n hx hb dX5_init_81 rfl (lv_at hl 1 rfl) ?_
  refine r_getN (ci := 4) (k := 1) (v := .int (mI (pI (pR (pR (pL (pR (pI (pI (pI (pI (pL (pL (pL (pI (pR S 508 h0 none) 509 h0 0) 510 h0 0) 511 h0 0) 512 h0 0) 513 h0 (-1)) 514 h0 0) 515 h0 0) 516 h0 0) 500 h0 (some h1)) 502 h0 j0) 503 h0 o0) 504 h0 o1) 501 h0 xv1) 401 h1)) C hM kh1 f_X5_55 rfl dX5_init_82 ?_
  refine lv_topi (fun xv2 exv2 => ?_)
  have fxv2 := NI.g401 hI.2 kh1 exv2
  have gxv2 : xv2 = xv1 := exv2.trans (exv1.symm)
  have hxv2 : xv2.toInt = xv1.toInt := by rw [gxv2]
  refine lv_iconst (v := 1) hx hb dX5_init_85 (by decide) ?_
  refine lv_isub hx hb dX5_init_86 ?_
  refine lv_topi (fun xv3 exv3 => ?_)
  try (have txv3 := subI (a := xv2) (b := 1) (by omega) (by omega); rw [← exv3] at txv3)
  refine r_VN (As := [.int xv3]) (rest := [.ref h0]) (ci := 4) C hM (c_X4_at l D H0 (pI (pR (pR (pL (pR (pI (pI (pI (pI (pL (pL (pL (pI (pR S 508 h0 none) 509 h0 0) 510 h0 0) 511 h0 0) 512 h0 0) 513 h0 (-1)) 514 h0 0) 515 h0 0) 516 h0 0) 500 h0 (some h1)) 502 h0 j0) 503 h0 o0) 504 h0 o1) 501 h0 xv1) kc ns h1 xv3 hI (fun z => by simp [xl, x0] at z) kh1) i_X4_at m_X5_63 kh1 rfl rfl rfl hl.1 rfl (Nat.le_of_ble_eq_true rfl) ⟨by decide, by decide⟩ ⟨by decide, by decide⟩ dX5_init_87 (fun rv7 Sv4 kv5 nv6 H locs pv8 hM => ?_)
  obtain ⟨rfl, rfl, rfl, krv7⟩ := pv8
  refine W.eq (g2 := F0 m 90 ls [va_rf rv7, .ref h0]) rfl ?_
  refine r_S (As := [va_rf rv7]) (rest := [.ref h0]) C hM (c_X5_labelBehind l D H0 (pI (pR (pR (pL (pR (pI (pI (pI (pI (pL (pL (pL (pI (pR S 508 h0 none) 509 h0 0) 510 h0 0) 511 h0 0) 512 h0 0) 513 h0 (-1)) 514 h0 0) 515 h0 0) 516 h0 0) 500 h0 (some h1)) 502 h0 j0) 503 h0 o0) 504 h0 o1) 501 h0 xv1) kc ns rv7 hI (krv7)) i_X5_labelBehind m_X5_67 rfl hl.1 rfl (Nat.le_of_ble_eq_true rfl) ⟨by decide, by decide⟩ ⟨by decide, by decide⟩ dX5_init_90 (fun rv12 Sv9 kv10 nv11 H locs pv13 hM => ?_)
  obtain ⟨rfl, rfl, rfl, krv12⟩ := pv13
  refine W.eq (g2 := F0 m 93 ls [va_rf rv12, .ref h0]) rfl ?_
  refine r_putF C hM kh0 f_X5_71 (fun r h => by cases h; exact ⟨rfl, rfl⟩) hnm (by cases rv12 <;> rfl) (by cases rv12 <;> rfl) (mPut.Rf (ci := 5) (k := 5) (x := rv12) rfl) dX5_init_93 (fun H locs hM => ?_)
  have hM : mH D H0 (pR (pI (pR (pR (pL (pR (pI (pI (pI (pI (pL (pL (pL (pI (pR S 508 h0 none) 509 h0 0) 510 h0 0) 511 h0 0) 512 h0 0) 513 h0 (-1)) 514 h0 0) 515 h0 0) 516 h0 0) 500 h0 (some h1)) 502 h0 j0) 503 h0 o0) 504 h0 o1) 501 h0 xv1) 505 h0 rv12) kc ns H locs := hM
  have hI : CI (xl x0 h0 []) u tl rho (pR (pI (pR (pR (pL (pR (pI (pI (pI (pI (pL (pL (pL (pI (pR S 508 h0 none) 509 h0 0) 510 h0 0) 511 h0 0) 512 h0 0) 513 h0 (-1)) 514 h0 0) 515 h0 0) 516 h0 0) 500 h0 (some h1)) 502 h0 j0) 503 h0 o0) 504 h0 o1) 501 h0 xv1) 505 h0 rv12) := CI.putR (ci := 5) (k := 5) hI kh0 (fun z h => ⟨krv12 z h, fun h => absurd rfl h⟩) (Or.inl rfl) (by decide) (by decide) (by decide)
  refine lv_aload_n hx hb dX5_init_96 rfl (lv_at hl 0 rfl) ?_
  refine lv_aloadQ hx hb dX5_init_97 (lv_at hl 4 rfl) ?_
  refine lv_lload_n hx hb dX5_init_99 rfl (lv_at hl 2 rfl) ?_
  refine r_S (As := [va_rf o1, .long j0]) (rest := [.ref h0]) C hM (c_X5_turnBehind l D H0 (pR (pI (pR (pR (pL (pR (pI (pI (pI (pI (pL (pL (pL (pI (pR S 508 h0 none) 509 h0 0) 510 h0 0) 511 h0 0) 512 h0 0) 513 h0 (-1)) 514 h0 0) 515 h0 0) 516 h0 0) 500 h0 (some h1)) 502 h0 j0) 503 h0 o0) 504 h0 o1) 501 h0 xv1) 505 h0 rv12) kc ns o1 j0 hI (ko1)) i_X5_turnBehind m_X5_74 rfl hl.1 rfl (Nat.le_of_ble_eq_true rfl) ⟨by decide, by decide⟩ ⟨by decide, by decide⟩ dX5_init_100 (fun xv17 Sv14 kv15 nv16 H locs pv18 hM => ?_)
  obtain ⟨rfl, rfl, rfl, hxv17⟩ := pv18
  refine W.eq (g2 := F0 m 103 ls [.int xv17, .ref h0]) rfl ?_
  refine r_putF C hM kh0 f_X5_78 (fun r h => by cases h; exact ⟨rfl, rfl⟩) hnm rfl rfl (mPut.I (ci := 5) (k := 6) rfl) dX5_init_103 (fun H locs hM => ?_)
  have hM : mH D H0 (pI (pR (pI (pR (pR (pL (pR (pI (pI (pI (pI (pL (pL (pL (pI (pR S 508 h0 none) 509 h0 0) 510 h0 0) 511 h0 0) 512 h0 0) 513 h0 (-1)) 514 h0 0) 515 h0 0) 516 h0 0) 500 h0 (some h1)) 502 h0 j0) 503 h0 o0) 504 h0 o1) 501 h0 xv1) 505 h0 rv12) 506 h0 xv17) kc ns H locs := hM
  have hI := hI.fe (fEq.I (S := (pR (pI (pR (pR (pL (pR (pI (pI (pI (pI (pL (pL (pL (pI (pR S 508 h0 none) 509 h0 0) 510 h0 0) 511 h0 0) 512 h0 0) 513 h0 (-1)) 514 h0 0) 515 h0 0) 516 h0 0) 500 h0 (some h1)) 502 h0 j0) 503 h0 o0) 504 h0 o1) 501 h0 xv1) 505 h0 rv12)) (f := 506) (a := h0) (v := xv17) (by decide))
  refine lv_aload_n hx hb dX5_init_106 rfl (lv_at hl 0 rfl) ?_
  refine lv_aloadQ hx hb dX5_init_107 (lv_at hl 3 rfl) ?_
  cases o0 with
  | none =>
    refine lv_ifnonnullN hx hb dX5_init_109 ?_
    refine lv_iconst (v := 0) hx hb dX5_init_112 (by decide) ?_
    refine lv_goto (tgt := 123) hx hb dX5_init_113 (by decide) ?_
    refine r_putF C hM kh0 f_X5_81 (fun r h => by cases h; exact ⟨rfl, rfl⟩) hnm rfl rfl (mPut.I (ci := 5) (k := 7) rfl) dX5_init_123 (fun H locs hM => ?_)
    have hM : mH D H0 (pI (pI (pR (pI (pR (pR (pL (pR (pI (pI (pI (pI (pL (pL (pL (pI (pR S 508 h0 none) 509 h0 0) 510 h0 0) 511 h0 0) 512 h0 0) 513 h0 (-1)) 514 h0 0) 515 h0 0) 516 h0 0) 500 h0 (some h1)) 502 h0 j0) 503 h0 none) 504 h0 o1) 501 h0 xv1) 505 h0 rv12) 506 h0 xv17) 507 h0 0) kc ns H locs := hM
    have hI := hI.fe (fEq.I (S := (pI (pR (pI (pR (pR (pL (pR (pI (pI (pI (pI (pL (pL (pL (pI (pR S 508 h0 none) 509 h0 0) 510 h0 0) 511 h0 0) 512 h0 0) 513 h0 (-1)) 514 h0 0) 515 h0 0) 516 h0 0) 500 h0 (some h1)) 502 h0 j0) 503 h0 none) 504 h0 o1) 501 h0 xv1) 505 h0 rv12) 506 h0 xv17)) (f := 507) (a := h0) (v := 0) (by decide))
    exact r_retV C hr hlk hM (⟨rfl, rfl, hK9, CI.full hI, fun q hq => by simp [mI, up2, hq], by simp [mI, up2]; exact hnum, fun q => by simp [mI, up2], fun f b hb => by simp [mR, up2, hb]⟩) dX5_init_126
  | some qv19 =>
    have kqv19 : mK _ qv19 = 6 := ko0 qv19 rfl
    refine lv_ifnonnull (tgt := 116) hx hb dX5_init_109 (by decide) ?_
    refine lv_aload hx hb dX5_init_116 (lv_at hl 3 rfl) ?_
    refine r_get (ci := 5) (k := 7) (v := .int (mI (pI (pR (pI (pR (pR (pL (pR (pI (pI (pI (pI (pL (pL (pL (pI (pR S 508 h0 none) 509 h0 0) 510 h0 0) 511 h0 0) 512 h0 0) 513 h0 (-1)) 514 h0 0) 515 h0 0) 516 h0 0) 500 h0 (some h1)) 502 h0 j0) 503 h0 (some qv19)) 504 h0 o1) 501 h0 xv1) 505 h0 rv12) 506 h0 xv17) 507 qv19)) C hM kqv19 f_X5_81 rfl dX5_init_118 ?_
    refine lv_topi (fun xv20 exv20 => ?_)
    refine lv_iconst (v := 1) hx hb dX5_init_121 (by decide) ?_
    refine lv_iadd hx hb dX5_init_122 ?_
    refine lv_topi (fun xv21 exv21 => ?_)
    try (have txv21 := addI (a := xv20) (b := 1) (by omega) (by omega); rw [← exv21] at txv21)
    refine r_putF C hM kh0 f_X5_81 (fun r h => by cases h; exact ⟨rfl, rfl⟩) hnm rfl rfl (mPut.I (ci := 5) (k := 7) rfl) dX5_init_123 (fun H locs hM => ?_)
    have hM : mH D H0 (pI (pI (pR (pI (pR (pR (pL (pR (pI (pI (pI (pI (pL (pL (pL (pI (pR S 508 h0 none) 509 h0 0) 510 h0 0) 511 h0 0) 512 h0 0) 513 h0 (-1)) 514 h0 0) 515 h0 0) 516 h0 0) 500 h0 (some h1)) 502 h0 j0) 503 h0 (some qv19)) 504 h0 o1) 501 h0 xv1) 505 h0 rv12) 506 h0 xv17) 507 h0 xv21) kc ns H locs := hM
    have hI := hI.fe (fEq.I (S := (pI (pR (pI (pR (pR (pL (pR (pI (pI (pI (pI (pL (pL (pL (pI (pR S 508 h0 none) 509 h0 0) 510 h0 0) 511 h0 0) 512 h0 0) 513 h0 (-1)) 514 h0 0) 515 h0 0) 516 h0 0) 500 h0 (some h1)) 502 h0 j0) 503 h0 (some qv19)) 504 h0 o1) 501 h0 xv1) 505 h0 rv12) 506 h0 xv17)) (f := 507) (a := h0) (v := xv21) (by decide))
    exact r_retV C hr hlk hM (⟨rfl, rfl, hK9, CI.full hI, fun q hq => by simp [mI, up2, hq], by simp [mI, up2]; exact hnum, fun q => by simp [mI, up2], fun f b hb => by simp [mR, up2, hb]⟩) dX5_init_126
set_option maxHeartbeats 4000000 in
set_option maxRecDepth 100000 in
theorem c_X4_add (l : Launch) (D : gD) (H0 : gB) (S : Mem) (kc ns : Nat) (h0 : Nat) (j0 : Int64) (o0 o1 : Option Nat) {u : Nat} {tl : Int} {rho : Nat × Nat} (hI : CI x0 u tl rho S) (hu : u < 2000000000) (kh0 : mK S h0 = 5) (ko0 : ∀ q, o0 = some q → mK S q = 6) (ko1 : ∀ q, o1 = some q → mK S q = 6) (hp0 : ∀ q, o0 = some q → (mI S 501 q).toInt < (mI S 401 h0).toInt) (hp1 : ∀ q, o1 = some q → (mI S 501 q).toInt < (mI S 401 h0).toInt) : Met l yX4_add (wsU yX4_add cX4_add 7 (some (.object "ClickBench$Part"))) ({ frames := 2, cells := 1, slots := 17, locals := 48 } : Room) (mP D H0 S kc ns [.ref h0, .long j0, va_rf o0, va_rf o1]) (mQ D H0 gR (fun r S1 k1 n1 => mX S S1 ∧ CI x0 (u + 61) tl rho S1 ∧ (∀ b, mK S b = 6 → mI S1 501 b = mI S 501 b) ∧ (∀ b, mK S b = 7 → mR S1 604 b = mR S 604 b ∧ mR S1 605 b = mR S 605 b) ∧ (mI S 401 h0).toInt ≤ (mI S1 401 h0).toInt ∧ ((k1 : Int) - kc = (mI S1 401 h0).toInt - (mI S 401 h0).toInt ∧ (n1 : Int) - ns = 17 * ((mI S1 401 h0).toInt - (mI S 401 h0).toInt)) ∧ ∀ q, r = some q → mK S1 q = 6 ∧ (mI S1 501 q).toInt < (mI S1 401 h0).toInt)) 1 17 (mF H0) := by
  refine r_met (own := RX4) (by decide +kernel) rfl (by simp [lg_sl, cat_rf, cat_i, cat_l, cat_a, cat_n]) ?_
  intro p e s m args below meth c C hr hlk hnm H ls hl hM
  obtain ⟨hx, hb, hml, hown, hts, -, -⟩ := id C
  have hl : lv_has ls 7 [(0, .ref h0), (1, .long j0), (3, va_rf o0), (4, va_rf o1)] := by simpa [lv_args, cat_rf, cat_i, cat_l, cat_a, cat_n] using hl
  have hI0 := hI
  have hX : mX S S := mX.rf
  have t_0 : (0 : Int32).toInt = 0 := by decide
  have t_1 : (1 : Int32).toInt = 1 := by decide
  have t_60 : (60 : Int32).toInt = 60 := by decide
  have kh0a := kh0
  have ko0a := ko0
  have ko1a := ko1
  refine lv_aload_n hx hb dX4_add_0 rfl (lv_at hl 0 rfl) ?_
  refine r_get (ci := 4) (k := 1) (v := .int (mI S 401 h0)) C hM kh0 f_X4_17 rfl dX4_add_1 ?_
  refine lv_topi (fun xv1 exv1 => ?_)
  have fxv1 := NI.g401 hI.2 kh0 exv1
  refine lv_bipush (v := 60) hx hb dX4_add_4 (by decide) ?_
  refine lv_icmp_lt (tgt := 11) hx hb dX4_add_6 (by decide) (fun cv2 => ?_) (fun cv2 => ?_)
  · have tcv2 := ltT cv2
    refine r_new (ci := 5) C hM rfl k_X4_9 in_X5 ini_X5 (by decide) (by decide) dX4_add_11 (fun qv3 H zqv3 hM => ?_)
    have hM : mH D H0 (nO S qv3 5) (kc + 1) (ns + 17) H [] := hM
    have kh0 : mK (nO S qv3 5) h0 = 5 := (mX.O (S := S) (a := qv3) (ci := 5) zqv3).k kh0
    have ko0 : ∀ q, o0 = some q → mK (nO S qv3 5) q = 6 := fun q h => (mX.O (S := S) (a := qv3) (ci := 5) zqv3).k (ko0 q h)
    have ko1 : ∀ q, o1 = some q → mK (nO S qv3 5) q = 6 := fun q h => (mX.O (S := S) (a := qv3) (ci := 5) zqv3).k (ko1 q h)
    have kqv3 : mK (nO S qv3 5) qv3 = 6 := kO
    have hX := hX.trans (mX.O (ci := 5) zqv3)
    have hI := CI.newO (ci := 5) hI zqv3 (by decide) (by decide)
    have hI : CI (xl x0 qv3 [500]) u tl rho (nO S qv3 5) := CI.todo (ci := 5) hI kqv3 (by decide)
    have hc9 : ∀ f b, b ≠ qv3 → mI (nO S qv3 5) f b = mI S f b := fun f b h => cl2_ne h
    have hh9 : h0 ≠ qv3 := ne9 zqv3 kh0a
    have hcnt9 : (mI (nO S qv3 5) 401 h0).toInt < 60 := by rw [hc9 401 h0 hh9, ← exv1]; omega
    have hp09 : ∀ z, o0 = some z → (mI (nO S qv3 5) 501 z).toInt < (mI (nO S qv3 5) 401 h0).toInt ∧ z ≠ qv3 := fun z h => by have hz := ne9 zqv3 (ko0a z h); rw [hc9 501 z hz, hc9 401 h0 hh9]; exact ⟨hp0 z h, hz⟩
    have hp19 : ∀ z, o1 = some z → (mI (nO S qv3 5) 501 z).toInt < (mI (nO S qv3 5) 401 h0).toInt ∧ z ≠ qv3 := fun z h => by have hz := ne9 zqv3 (ko1a z h); rw [hc9 501 z hz, hc9 401 h0 hh9]; exact ⟨hp1 z h, hz⟩
    have hun9 := un9 hI0 zqv3
    have hz9 := zqv3
    refine lv_dup hx hb dX4_add_14 rfl ?_
    refine lv_aload_n hx hb dX4_add_15 rfl (lv_at hl 0 rfl) ?_
    refine lv_lload_n hx hb dX4_add_16 rfl (lv_at hl 1 rfl) ?_
    refine lv_aload_nQ hx hb dX4_add_17 rfl (lv_at hl 2 rfl) ?_
    refine lv_aloadQ hx hb dX4_add_18 (lv_at hl 3 rfl) ?_
    refine r_IN (As := [.ref h0, .long j0, va_rf o0, va_rf o1]) (rest := [.ref qv3]) C hM (c_X5_init l D H0 (nO S qv3 5) (kc + 1) (ns + 17) qv3 h0 j0 o0 o1 hI kqv3 kh0 (ko0) (ko1) hcnt9 hp09 hp19 hun9) i_X5_init m_X4_21 rfl hl.1 rfl (Nat.le_of_ble_eq_true rfl) ⟨by decide, by decide⟩ ⟨by decide, by decide⟩ dX4_add_20 (fun uv7 Sv4 kv5 nv6 H locs pv8 hM => ?_)
    obtain ⟨rfl, rfl, hk9, hI, hN1, hN2, hN3, hN4⟩ := pv8
    have kh0 : mK Sv4 h0 = 5 := (congrFun (hk9) h0).trans kh0
    have ko0 : ∀ q, o0 = some q → mK Sv4 q = 6 := fun q h => (congrFun (hk9) q).trans (ko0 q h)
    have ko1 : ∀ q, o1 = some q → mK Sv4 q = 6 := fun q h => (congrFun (hk9) q).trans (ko1 q h)
    have kqv3 : mK Sv4 qv3 = 6 := (congrFun (hk9) qv3).trans kqv3
    have hX := hX.trans (mX.of hk9)
    refine W.eq (g2 := F0 m 23 ls [.ref qv3]) rfl ?_
    have hE1 : ∀ b, mK S b = 6 → mI Sv4 501 b = mI S 501 b := fun b hb => (hN1 b (ne9 hz9 hb)).trans (hc9 501 b (ne9 hz9 hb))
    have hE2 : ∀ b, mK S b = 7 → mR Sv4 604 b = mR S 604 b ∧ mR Sv4 605 b = mR S 605 b := fun b hb => ⟨(hN4 604 b (ne9 hz9 hb)).trans (cl2_ne (ne9 hz9 hb)), (hN4 605 b (ne9 hz9 hb)).trans (cl2_ne (ne9 hz9 hb))⟩
    have hE3 : mI Sv4 401 h0 = mI S 401 h0 := (hN3 h0).trans (hc9 401 h0 hh9)
    have hE4 : mI Sv4 501 qv3 = mI S 401 h0 := hN2.trans (hc9 401 h0 hh9)
    refine lv_astore (lv' := [(5, .ref qv3), (0, .ref h0), (1, .long j0), (3, va_rf o0), (4, va_rf o1)]) hx hb dX4_add_23 hl (by decide) (by simp [cat_rf, cat_i, cat_l, cat_a, cat_n] <;> first | decide | (repeat' (first | rfl | constructor))) (fun ls hl => ?_)
    refine lv_aloadQ hx hb dX4_add_25 (lv_at hl 4 rfl) ?_
    cases o1 with
    | none =>
      refine lv_ifnullN (tgt := 37) hx hb dX4_add_27 (by decide) ?_
      refine lv_aload_nQ hx hb dX4_add_37 rfl (lv_at hl 3 rfl) ?_
      refine lv_astoreQ (lv' := [(6, va_rf o0), (5, .ref qv3), (0, .ref h0), (1, .long j0), (3, va_rf o0), (4, .null)]) hx hb dX4_add_38 hl (by decide) rfl (fun ls hl => ?_)
      have hI : CI x0 (u + (61 - cm Sv4 o0)) tl rho Sv4 := CI.ccLe hI (by omega)
      have loop40 : ∀ (fu : Nat) (o : Option Nat) (Sa : Mem) (H : Heap) (locs : List Loc) (ls : Array Slot), (mX S Sa) → (CI x0 (u + (61 - cm Sa o)) tl rho Sa) → (∀ b, mK S b = 6 → mI Sa 501 b = mI S 501 b) → (∀ b, mK S b = 7 → mR Sa 604 b = mR S 604 b ∧ mR Sa 605 b = mR S 605 b) → (mI Sa 401 h0 = mI S 401 h0) → (mI Sa 501 qv3 = mI S 401 h0) → (mK Sa qv3 = 6) → (mK Sa h0 = 5) → (∀ z, o = some z → mK Sa z = 6) → cm Sa o < fu → lv_has ls 7 [(0, .ref h0), (1, .long j0), (3, va_rf o0), (4, .null), (5, .ref qv3), (6, va_rf o)] → mH D H0 Sa (kc + 1) (ns + 17) H locs → W p l e ({ frames := 2, cells := 1, slots := 17, locals := 48 } : Room) s m args below meth c H locs (0 + 1) (0 + 17) (MQ below (mQ D H0 gR (fun r S1 k1 n1 => mX S S1 ∧ CI x0 (u + 61) tl rho S1 ∧ (∀ b, mK S b = 6 → mI S1 501 b = mI S 501 b) ∧ (∀ b, mK S b = 7 → mR S1 604 b = mR S 604 b ∧ mR S1 605 b = mR S 605 b) ∧ (mI S 401 h0).toInt ≤ (mI S1 401 h0).toInt ∧ ((k1 : Int) - kc = (mI S1 401 h0).toInt - (mI S 401 h0).toInt ∧ (n1 : Int) - ns = 17 * ((mI S1 401 h0).toInt - (mI S 401 h0).toInt)) ∧ ∀ q, r = some q → mK S1 q = 6 ∧ (mI S1 501 q).toInt < (mI S1 401 h0).toInt)) args s 1 17 (mF H0)) (F0 m 40 ls []) := by
        intro fu
        induction fu with
        | zero => intro o Sa H locs ls h40_0 h40_1 h40_2 h40_3 h40_4 h40_5 h40_6 h40_7 h40_8 hfu; exact absurd hfu (by omega)
        | succ fu ih40 =>
          intro o Sa H locs ls h40_0 h40_1 h40_2 h40_3 h40_4 h40_5 h40_6 h40_7 h40_8 hfu hl hM
          have hX := h40_0
          have hI := h40_1
          have kqv3 := h40_6
          have kh0 := h40_7
          have ko := h40_8
          have hE1 := h40_2
          have hE2 := h40_3
          have hE3 := h40_4
          have hE4 := h40_5
          refine lv_aloadQ hx hb dX4_add_40 (lv_at hl 5 rfl) ?_
          cases o with
          | none =>
            refine lv_ifnullN (tgt := 66) hx hb dX4_add_42 (by decide) ?_
            refine lv_aload_n hx hb dX4_add_66 rfl (lv_at hl 0 rfl) ?_
            obtain ⟨qv11, eqv11, kqv11, nqv11⟩ := TI.nn hI.1 (ci := 4) (k := 0) kh0
            refine r_get (ci := 4) (k := 0) (v := .ref qv11) C hM kh0 f_X4_11 (congrArg va_rf eqv11) dX4_add_67 ?_
            refine lv_aload_n hx hb dX4_add_70 rfl (lv_at hl 0 rfl) ?_
            refine r_get (ci := 4) (k := 1) (v := .int (mI Sa 401 h0)) C hM kh0 f_X4_17 rfl dX4_add_71 ?_
            refine lv_topi (fun xv12 exv12 => ?_)
            have fxv12 := NI.g401 hI.2 kh0 exv12
            have h71 : xv12.toInt < 60 := by rw [exv12, hE3, ← exv1]; omega
            have h72 : xv12 = mI S 401 h0 := exv12.trans hE3
            refine lv_aload hx hb dX4_add_74 (lv_at hl 4 rfl) ?_
            refine r_aast (t := 0) (ci := 5) (o := (some qv3)) C hM kqv11 (by decide) rfl rfl (fun q h => by cases h; exact kqv3) (inI (by omega) (by rw [nqv11 (by decide)]; show _ < (60 : Int); omega)) dX4_add_76 (fun H locs hM => ?_)
            have hM : mH D H0 (qR Sa qv11 xv12.toNatClampNeg (some qv3)) (kc + 1) (ns + 17) H locs := hM
            have hI := CI.putA (i := xv12.toNatClampNeg) (o := (some qv3)) hI kqv11 (fun q h => by cases h; exact kqv3)
            refine lv_aload_n hx hb dX4_add_77 rfl (lv_at hl 0 rfl) ?_
            refine lv_dup hx hb dX4_add_78 rfl ?_
            refine r_get (ci := 4) (k := 1) (v := .int (mI (qR Sa qv11 xv12.toNatClampNeg (some qv3)) 401 h0)) C hM kh0 f_X4_17 rfl dX4_add_79 ?_
            refine lv_topi (fun xv13 exv13 => ?_)
            have fxv13 := NI.g401 hI.2 kh0 exv13
            have gxv13 : xv13 = xv12 := exv13.trans (exv12.symm)
            have hxv13 : xv13.toInt = xv12.toInt := by rw [gxv13]
            refine lv_iconst (v := 1) hx hb dX4_add_82 (by decide) ?_
            refine lv_iadd hx hb dX4_add_83 ?_
            refine lv_topi (fun xv14 exv14 => ?_)
            try (have txv14 := addI (a := xv13) (b := 1) (by omega) (by omega); rw [← exv14] at txv14)
            refine r_put C hM kh0 f_X4_17 (fun r h => by cases h; rfl) rfl rfl (mPut.I (ci := 4) (k := 1) rfl) dX4_add_84 (fun H locs hM => ?_)
            have hM : mH D H0 (pI (qR Sa qv11 xv12.toNatClampNeg (some qv3)) 401 h0 xv14) (kc + 1) (ns + 17) H locs := hM
            have hI := CI.p401 (a := h0) (v := xv14) hI ⟨by omega, by omega⟩
            have h84 : (mI (pI (qR Sa qv11 xv12.toNatClampNeg (some qv3)) 401 h0 xv14) 401 h0).toInt = (mI S 401 h0).toInt + 1 := by rw [show mI (pI (qR Sa qv11 xv12.toNatClampNeg (some qv3)) 401 h0 xv14) 401 h0 = xv14 from up2_eq, ← h72]; omega
            have h85 : (mI (pI (qR Sa qv11 xv12.toNatClampNeg (some qv3)) 401 h0 xv14) 501 qv3 ).toInt = (mI S 401 h0).toInt := congrArg Int32.toInt hE4
            refine lv_aload hx hb dX4_add_87 (lv_at hl 4 rfl) ?_
            refine W.widen (k := 1) (n := 17) (by first | decide | omega) (by first | decide | omega) ?_
            exact r_retR (v := (some qv3)) C hr hlk hM (⟨hX, CI.ccLe hI (by omega), fun b hb => hE1 b hb, fun b hb => hE2 b hb, by omega, ⟨by omega, by omega⟩, fun z h => by cases h; exact ⟨kqv3 , by omega⟩⟩) dX4_add_89
          | some qv10 =>
            have kqv10 : mK Sa qv10 = 6 := ko qv10 rfl
            refine lv_ifnull hx hb dX4_add_42 ?_
            refine lv_aload hx hb dX4_add_45 (lv_at hl 5 rfl) ?_
            refine lv_dup hx hb dX4_add_47 rfl ?_
            refine r_getN (ci := 5) (k := 9) (v := .int (mI Sa 509 qv10)) C hM kqv10 f_X4_28 rfl dX4_add_48 ?_
            refine lv_topi (fun xv15 exv15 => ?_)
            have fxv15 := NI.g509 hI.2 kqv10 exv15
            refine lv_iconst (v := 1) hx hb dX4_add_51 (by decide) ?_
            refine lv_iadd hx hb dX4_add_52 ?_
            refine lv_topi (fun xv16 exv16 => ?_)
            try (have txv16 := addI (a := xv15) (b := 1) (by omega) (by omega); rw [← exv16] at txv16)
            refine r_putN C hM kqv10 f_X4_28 (fun r h => by cases h; rfl) rfl rfl (mPut.I (ci := 5) (k := 9) rfl) dX4_add_53 (fun H locs hM => ?_)
            have hM : mH D H0 (pI Sa 509 qv10 xv16) (kc + 1) (ns + 17) H locs := hM
            have hI := CI.p509 (a := qv10 ) (v := xv16) (CI.ccLe hI (Nat.le_succ _)) ⟨by omega, by omega⟩
            refine lv_aload hx hb dX4_add_56 (lv_at hl 5 rfl) ?_
            refine r_getN (ci := 5) (k := 3) C hM kqv10 f_X4_31 rfl dX4_add_58 ?_
            obtain ⟨rv17, erv17, krv17⟩ : ∃ r : Option Nat, mR (pI Sa 509 qv10 xv16) 503 qv10 = r ∧ ∀ q, r = some q → mK (pI Sa 509 qv10 xv16) q = 6 := ⟨_, rfl, TI.opt hI.1 (ci := 5) (k := 3) kqv10⟩
            refine W.eq (g2 := F0 m 61 ls [va_rf rv17]) (by rw [← erv17]; rfl) ?_
            refine lv_astoreQ (lv' := [(6, va_rf rv17), (0, .ref h0), (1, .long j0), (3, va_rf o0), (4, .null), (5, .ref qv3)]) hx hb dX4_add_61 hl (by decide) rfl (fun ls hl => ?_)
            refine lv_goto (tgt := 40) hx hb dX4_add_63 (by decide) ?_
            have h96 := cm503 hI kqv10; rw [erv17] at h96
            have h97 : cm (pI Sa 509 qv10 xv16) (some qv10) = cm Sa (some qv10) := rfl
            have h98 := cm60 hI kqv10
            have hI := CI.ccLe (c' := u + (61 - cm (pI Sa 509 qv10 xv16) rv17 )) hI (by omega)
            have hE1 : ∀ b, mK S b = 6 → mI (pI Sa 509 qv10 xv16) 501 b = mI S 501 b := hE1
            have hE2 : ∀ b, mK S b = 7 → mR (pI Sa 509 qv10 xv16) 604 b = mR S 604 b ∧ mR (pI Sa 509 qv10 xv16) 605 b = mR S 605 b := hE2
            exact ih40 rv17 (pI Sa 509 qv10 xv16) _ _ _ (hX) (hI) (hE1) (hE2) (hE3) (hE4) (kqv3) (kh0) (krv17) (by omega) (lv_sub hl [1, 2, 3, 4, 5, 0] rfl) hM
      exact loop40 ((cm Sv4 o0) + 1) o0 Sv4 _ _ _ (hX) (hI) (hE1) (hE2) (hE3) (hE4) (kqv3) (kh0) (ko0) (by omega) (lv_sub hl [2, 3, 4, 5, 1, 0] rfl) hM
    | some qv9 =>
      have kqv9 : mK Sv4 qv9 = 6 := ko1 qv9 rfl
      refine lv_ifnull hx hb dX4_add_27 ?_
      refine lv_aload hx hb dX4_add_30 (lv_at hl 4 rfl) ?_
      refine lv_aload hx hb dX4_add_32 (lv_at hl 0 rfl) ?_
      refine r_putN C hM kqv9 f_X4_24 (fun r h => by cases h; rfl) rfl rfl (mPut.Rf (ci := 5) (k := 8) (x := (some qv3)) rfl) dX4_add_34 (fun H locs hM => ?_)
      have hM : mH D H0 (pR Sv4 508 qv9 (some qv3)) (kc + 1) (ns + 17) H locs := hM
      have hI : CI x0 u tl rho (pR Sv4 508 qv9 (some qv3)) := CI.putR (ci := 5) (k := 8) hI kqv9 (fun z h => by cases h; exact ⟨kqv3, fun h => absurd rfl h⟩) (Or.inl rfl) (by decide) (by decide) (by decide)
      refine lv_aload_nQ hx hb dX4_add_37 rfl (lv_at hl 3 rfl) ?_
      refine lv_astoreQ (lv' := [(6, va_rf o0), (5, .ref qv3), (0, .ref h0), (1, .long j0), (3, va_rf o0), (4, .ref qv9)]) hx hb dX4_add_38 hl (by decide) rfl (fun ls hl => ?_)
      have hI : CI x0 (u + (61 - cm (pR Sv4 508 qv9 (some qv3)) o0)) tl rho (pR Sv4 508 qv9 (some qv3)) := CI.ccLe hI (by omega)
      have loop40 : ∀ (fu : Nat) (o : Option Nat) (Sa : Mem) (H : Heap) (locs : List Loc) (ls : Array Slot), (mX S Sa) → (CI x0 (u + (61 - cm Sa o)) tl rho Sa) → (∀ b, mK S b = 6 → mI Sa 501 b = mI S 501 b) → (∀ b, mK S b = 7 → mR Sa 604 b = mR S 604 b ∧ mR Sa 605 b = mR S 605 b) → (mI Sa 401 h0 = mI S 401 h0) → (mI Sa 501 qv3 = mI S 401 h0) → (mK Sa qv3 = 6) → (mK Sa h0 = 5) → (∀ z, o = some z → mK Sa z = 6) → cm Sa o < fu → lv_has ls 7 [(0, .ref h0), (1, .long j0), (3, va_rf o0), (4, .ref qv9), (5, .ref qv3), (6, va_rf o)] → mH D H0 Sa (kc + 1) (ns + 17) H locs → W p l e ({ frames := 2, cells := 1, slots := 17, locals := 48 } : Room) s m args below meth c H locs (0 + 1) (0 + 17) (MQ below (mQ D H0 gR (fun r S1 k1 n1 => mX S S1 ∧ CI x0 (u + 61) tl rho S1 ∧ (∀ b, mK S b = 6 → mI S1 501 b = mI S 501 b) ∧ (∀ b, mK S b = 7 → mR S1 604 b = mR S 604 b ∧ mR S1 605 b = mR S 605 b) ∧ (mI S 401 h0).toInt ≤ (mI S1 401 h0).toInt ∧ ((k1 : Int) - kc = (mI S1 401 h0).toInt - (mI S 401 h0).toInt ∧ (n1 : Int) - ns = 17 * ((mI S1 401 h0).toInt - (mI S 401 h0).toInt)) ∧ ∀ q, r = some q → mK S1 q = 6 ∧ (mI S1 501 q).toInt < (mI S1 401 h0).toInt)) args s 1 17 (mF H0)) (F0 m 40 ls []) := by
        intro fu
        induction fu with
        | zero => intro o Sa H locs ls h40_0 h40_1 h40_2 h40_3 h40_4 h40_5 h40_6 h40_7 h40_8 hfu; exact absurd hfu (by omega)
        | succ fu ih40 =>
          intro o Sa H locs ls h40_0 h40_1 h40_2 h40_3 h40_4 h40_5 h40_6 h40_7 h40_8 hfu hl hM
          have hX := h40_0
          have hI := h40_1
          have kqv3 := h40_6
          have kh0 := h40_7
          have ko := h40_8
          have hE1 := h40_2
          have hE2 := h40_3
          have hE3 := h40_4
          have hE4 := h40_5
          refine lv_aloadQ hx hb dX4_add_40 (lv_at hl 5 rfl) ?_
          cases o with
          | none =>
            refine lv_ifnullN (tgt := 66) hx hb dX4_add_42 (by decide) ?_
            refine lv_aload_n hx hb dX4_add_66 rfl (lv_at hl 0 rfl) ?_
            obtain ⟨qv19, eqv19, kqv19, nqv19⟩ := TI.nn hI.1 (ci := 4) (k := 0) kh0
            refine r_get (ci := 4) (k := 0) (v := .ref qv19) C hM kh0 f_X4_11 (congrArg va_rf eqv19) dX4_add_67 ?_
            refine lv_aload_n hx hb dX4_add_70 rfl (lv_at hl 0 rfl) ?_
            refine r_get (ci := 4) (k := 1) (v := .int (mI Sa 401 h0)) C hM kh0 f_X4_17 rfl dX4_add_71 ?_
            refine lv_topi (fun xv20 exv20 => ?_)
            have fxv20 := NI.g401 hI.2 kh0 exv20
            have h71 : xv20.toInt < 60 := by rw [exv20, hE3, ← exv1]; omega
            have h72 : xv20 = mI S 401 h0 := exv20.trans hE3
            refine lv_aload hx hb dX4_add_74 (lv_at hl 4 rfl) ?_
            refine r_aast (t := 0) (ci := 5) (o := (some qv3)) C hM kqv19 (by decide) rfl rfl (fun q h => by cases h; exact kqv3) (inI (by omega) (by rw [nqv19 (by decide)]; show _ < (60 : Int); omega)) dX4_add_76 (fun H locs hM => ?_)
            have hM : mH D H0 (qR Sa qv19 xv20.toNatClampNeg (some qv3)) (kc + 1) (ns + 17) H locs := hM
            have hI := CI.putA (i := xv20.toNatClampNeg) (o := (some qv3)) hI kqv19 (fun q h => by cases h; exact kqv3)
            refine lv_aload_n hx hb dX4_add_77 rfl (lv_at hl 0 rfl) ?_
            refine lv_dup hx hb dX4_add_78 rfl ?_
            refine r_get (ci := 4) (k := 1) (v := .int (mI (qR Sa qv19 xv20.toNatClampNeg (some qv3)) 401 h0)) C hM kh0 f_X4_17 rfl dX4_add_79 ?_
            refine lv_topi (fun xv21 exv21 => ?_)
            have fxv21 := NI.g401 hI.2 kh0 exv21
            have gxv21 : xv21 = xv20 := exv21.trans (exv20.symm)
            have hxv21 : xv21.toInt = xv20.toInt := by rw [gxv21]
            refine lv_iconst (v := 1) hx hb dX4_add_82 (by decide) ?_
            refine lv_iadd hx hb dX4_add_83 ?_
            refine lv_topi (fun xv22 exv22 => ?_)
            try (have txv22 := addI (a := xv21) (b := 1) (by omega) (by omega); rw [← exv22] at txv22)
            refine r_put C hM kh0 f_X4_17 (fun r h => by cases h; rfl) rfl rfl (mPut.I (ci := 4) (k := 1) rfl) dX4_add_84 (fun H locs hM => ?_)
            have hM : mH D H0 (pI (qR Sa qv19 xv20.toNatClampNeg (some qv3)) 401 h0 xv22) (kc + 1) (ns + 17) H locs := hM
            have hI := CI.p401 (a := h0) (v := xv22) hI ⟨by omega, by omega⟩
            have h84 : (mI (pI (qR Sa qv19 xv20.toNatClampNeg (some qv3)) 401 h0 xv22) 401 h0).toInt = (mI S 401 h0).toInt + 1 := by rw [show mI (pI (qR Sa qv19 xv20.toNatClampNeg (some qv3)) 401 h0 xv22) 401 h0 = xv22 from up2_eq, ← h72]; omega
            have h85 : (mI (pI (qR Sa qv19 xv20.toNatClampNeg (some qv3)) 401 h0 xv22) 501 qv3 ).toInt = (mI S 401 h0).toInt := congrArg Int32.toInt hE4
            refine lv_aload hx hb dX4_add_87 (lv_at hl 4 rfl) ?_
            refine W.widen (k := 1) (n := 17) (by first | decide | omega) (by first | decide | omega) ?_
            exact r_retR (v := (some qv3)) C hr hlk hM (⟨hX, CI.ccLe hI (by omega), fun b hb => hE1 b hb, fun b hb => hE2 b hb, by omega, ⟨by omega, by omega⟩, fun z h => by cases h; exact ⟨kqv3 , by omega⟩⟩) dX4_add_89
          | some qv18 =>
            have kqv18 : mK Sa qv18 = 6 := ko qv18 rfl
            refine lv_ifnull hx hb dX4_add_42 ?_
            refine lv_aload hx hb dX4_add_45 (lv_at hl 5 rfl) ?_
            refine lv_dup hx hb dX4_add_47 rfl ?_
            refine r_getN (ci := 5) (k := 9) (v := .int (mI Sa 509 qv18)) C hM kqv18 f_X4_28 rfl dX4_add_48 ?_
            refine lv_topi (fun xv23 exv23 => ?_)
            have fxv23 := NI.g509 hI.2 kqv18 exv23
            refine lv_iconst (v := 1) hx hb dX4_add_51 (by decide) ?_
            refine lv_iadd hx hb dX4_add_52 ?_
            refine lv_topi (fun xv24 exv24 => ?_)
            try (have txv24 := addI (a := xv23) (b := 1) (by omega) (by omega); rw [← exv24] at txv24)
            refine r_putN C hM kqv18 f_X4_28 (fun r h => by cases h; rfl) rfl rfl (mPut.I (ci := 5) (k := 9) rfl) dX4_add_53 (fun H locs hM => ?_)
            have hM : mH D H0 (pI Sa 509 qv18 xv24) (kc + 1) (ns + 17) H locs := hM
            have hI := CI.p509 (a := qv18 ) (v := xv24) (CI.ccLe hI (Nat.le_succ _)) ⟨by omega, by omega⟩
            refine lv_aload hx hb dX4_add_56 (lv_at hl 5 rfl) ?_
            refine r_getN (ci := 5) (k := 3) C hM kqv18 f_X4_31 rfl dX4_add_58 ?_
            obtain ⟨rv25, erv25, krv25⟩ : ∃ r : Option Nat, mR (pI Sa 509 qv18 xv24) 503 qv18 = r ∧ ∀ q, r = some q → mK (pI Sa 509 qv18 xv24) q = 6 := ⟨_, rfl, TI.opt hI.1 (ci := 5) (k := 3) kqv18⟩
            refine W.eq (g2 := F0 m 61 ls [va_rf rv25]) (by rw [← erv25]; rfl) ?_
            refine lv_astoreQ (lv' := [(6, va_rf rv25), (0, .ref h0), (1, .long j0), (3, va_rf o0), (4, .ref qv9), (5, .ref qv3)]) hx hb dX4_add_61 hl (by decide) rfl (fun ls hl => ?_)
            refine lv_goto (tgt := 40) hx hb dX4_add_63 (by decide) ?_
            have h96 := cm503 hI kqv18; rw [erv25] at h96
            have h97 : cm (pI Sa 509 qv18 xv24) (some qv18) = cm Sa (some qv18) := rfl
            have h98 := cm60 hI kqv18
            have hI := CI.ccLe (c' := u + (61 - cm (pI Sa 509 qv18 xv24) rv25 )) hI (by omega)
            have hE1 : ∀ b, mK S b = 6 → mI (pI Sa 509 qv18 xv24) 501 b = mI S 501 b := hE1
            have hE2 : ∀ b, mK S b = 7 → mR (pI Sa 509 qv18 xv24) 604 b = mR S 604 b ∧ mR (pI Sa 509 qv18 xv24) 605 b = mR S 605 b := hE2
            exact ih40 rv25 (pI Sa 509 qv18 xv24) _ _ _ (hX) (hI) (hE1) (hE2) (hE3) (hE4) (kqv3) (kh0) (krv25) (by omega) (lv_sub hl [1, 2, 3, 4, 5, 0] rfl) hM
      exact loop40 ((cm (pR Sv4 508 qv9 (some qv3)) o0) + 1) o0 (pR Sv4 508 qv9 (some qv3)) _ _ _ (hX) (hI) (hE1) (hE2) (hE3) (hE4) (kqv3) (kh0) (ko0) (by omega) (lv_sub hl [2, 3, 4, 5, 1, 0] rfl) hM
  · have tcv2 := ltF cv2
    refine lv_null hx hb dX4_add_9 ?_
    refine W.widen (k := 1) (n := 17) (by first | decide | omega) (by first | decide | omega) ?_
    exact r_retR (v := none) C hr hlk hM (⟨mX.rf, CI.ccLe hI (by omega), fun _ _ => rfl, fun _ _ => ⟨rfl, rfl⟩, by omega, ⟨by omega, by omega⟩, fun q h => by cases h⟩) dX4_add_10
