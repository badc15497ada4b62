set_option maxHeartbeats 4000000 in
set_option maxRecDepth 100000 in
theorem c_X5_init (l : Launch) (D : gD) (H0 : Heap) (S : Mem) (kc ns : Nat) (h0 h1 : Nat) (j0 : Int64) (o0 o1 : Option Nat) {u : Nat} {tl : Int} {rho : Nat} (hI : CI (xl x0 h0 [500]) u tl rho S) (kh0 : mK S h0 = 6) (kh1 : mK S h1 = 5) (ko0 : ∀ q, o0 = some q → mK S q = 6) (ko1 : ∀ q, o1 = some q → mK S q = 6) (hcnt : (mI S 401 h1).toInt < 60) (hp0 : ∀ q, o0 = some q → (mI S 501 q).toInt < (mI S 401 h1).toInt ∧ q ≠ h0) (hp1 : ∀ q, o1 = some q → (mI S 501 q).toInt < (mI S 401 h1).toInt ∧ q ≠ h0) (hun : ∀ b, mK S b = 6 → mR S 503 b ≠ some h0 ∧ mR S 504 b ≠ some h0) : Met l yX5_init (wsU yX5_init cX5_init 6 none) ({ frames := 1, cells := 0, slots := 0, locals := 23 } : Room) (mP D H0 S kc ns [.ref h0, .ref h1, .long j0, va_rf o0, va_rf o1]) (mQ D H0 gV (fun r S1 k1 n1 => kc = k1 ∧ ns = n1 ∧ mK S1 = mK S ∧ CI x0 u tl rho S1 ∧ (∀ q, q ≠ h0 → mI S1 501 q = mI S 501 q) ∧ mI S1 501 h0 = mI S 401 h1 ∧ (∀ q, mI S1 401 q = mI S 401 q) ∧ ∀ f b, b ≠ h0 → mR S1 f b = mR S f b)) 0 0 (mF H0) := by
  refine r_met (own := RX5) (by decide +kernel) rfl (by simp [lg_sl, cat_rf, cat_i, cat_l, cat_a, cat_n]) ?_
  intro p e s m args below meth c C hr hlk hnm H ls hl hM
  obtain ⟨hx, hb, hml, hown, hts, -, -⟩ := id C
  have hl : lv_has ls 6 [(0, .ref h0), (1, .ref h1), (2, .long j0), (4, va_rf o0), (5, va_rf o1)] := by simpa [lv_args, cat_rf, cat_i, cat_l, cat_a, cat_n] using hl
  have hI0 := hI
  have hK9 : mK S = mK S := rfl
  have t_m1 : (-1 : Int32).toInt = -1 := by decide
  have t_0 : (0 : Int32).toInt = 0 := by decide
  have t_1 : (1 : Int32).toInt = 1 := by decide
  refine lv_aload_n hx hb dX5_init_0 rfl (lv_at hl 0 rfl) ?_
  refine W.objInit hx hb hown (hts _ m_X5_3) (hts _ oi_inst) (hts _ oi_code) rfl (by rw [hml]; exact hl.1) rfl dX5_init_1 (Nat.le_of_ble_eq_true rfl) (Nat.le_of_ble_eq_true rfl) ?_
  refine W.eq (g2 := F0 m 4 ls []) rfl ?_
  refine lv_aload_n hx hb dX5_init_4 rfl (lv_at hl 0 rfl) ?_
  refine lv_null hx hb dX5_init_5 ?_
  refine r_put C hM kh0 f_X5_9 (fun r h => by cases h; rfl) rfl rfl (mPut.Rf (ci := 5) (k := 8) (x := none) rfl) dX5_init_6 (fun H locs hM => ?_)
  have hM : mH D H0 (pR S 508 h0 none) kc ns H locs := hM
  have hI : CI (xl x0 h0 [500]) u tl rho (pR S 508 h0 none) := CI.putR (ci := 5) (k := 8) hI kh0 (fun z h => by cases h) (Or.inl rfl) (by decide) (by decide) (by decide)
  refine lv_aload_n hx hb dX5_init_9 rfl (lv_at hl 0 rfl) ?_
  refine lv_iconst (v := 0) hx hb dX5_init_10 (by decide) ?_
  refine r_put C hM kh0 f_X5_15 (fun r h => by cases h; rfl) rfl rfl (mPut.I (ci := 5) (k := 9) rfl) dX5_init_11 (fun H locs hM => ?_)
  have hM : mH D H0 (pI (pR S 508 h0 none) 509 h0 0) kc ns H locs := hM
  have hI := CI.p509 (a := h0) (v := 0) hI ⟨by omega, by omega⟩
  refine lv_aload_n hx hb dX5_init_14 rfl (lv_at hl 0 rfl) ?_
  refine lv_lconst (v := 0) hx hb dX5_init_15 (by decide) ?_
  refine r_put C hM kh0 f_X5_19 (fun r h => by cases h; rfl) rfl rfl (mPut.L (ci := 5) (k := 10) rfl) dX5_init_16 (fun H locs hM => ?_)
  have hM : mH D H0 (pL (pI (pR S 508 h0 none) 509 h0 0) 510 h0 0) kc ns H locs := hM
  have hI := hI.fe (fEq.L (S := (pI (pR S 508 h0 none) 509 h0 0)) (f := 510) (a := h0) (v := 0))
  refine lv_aload_n hx hb dX5_init_19 rfl (lv_at hl 0 rfl) ?_
  refine lv_lconst (v := 0) hx hb dX5_init_20 (by decide) ?_
  refine r_put C hM kh0 f_X5_23 (fun r h => by cases h; rfl) rfl rfl (mPut.L (ci := 5) (k := 11) rfl) dX5_init_21 (fun H locs hM => ?_)
  have hM : mH D H0 (pL (pL (pI (pR S 508 h0 none) 509 h0 0) 510 h0 0) 511 h0 0) kc ns H locs := hM
  have hI := hI.fe (fEq.L (S := (pL (pI (pR S 508 h0 none) 509 h0 0) 510 h0 0)) (f := 511) (a := h0) (v := 0))
  refine lv_aload_n hx hb dX5_init_24 rfl (lv_at hl 0 rfl) ?_
  refine lv_lconst (v := 0) hx hb dX5_init_25 (by decide) ?_
  refine r_put C hM kh0 f_X5_26 (fun r h => by cases h; rfl) rfl rfl (mPut.L (ci := 5) (k := 12) rfl) dX5_init_26 (fun H locs hM => ?_)
  have hM : mH D H0 (pL (pL (pL (pI (pR S 508 h0 none) 509 h0 0) 510 h0 0) 511 h0 0) 512 h0 0) kc ns H locs := hM
  have hI := hI.fe (fEq.L (S := (pL (pL (pI (pR S 508 h0 none) 509 h0 0) 510 h0 0) 511 h0 0)) (f := 512) (a := h0) (v := 0))
  refine lv_aload_n hx hb dX5_init_29 rfl (lv_at hl 0 rfl) ?_
  refine lv_iconst (v := -1) hx hb dX5_init_30 (by decide) ?_
  refine r_put C hM kh0 f_X5_29 (fun r h => by cases h; rfl) rfl rfl (mPut.I (ci := 5) (k := 13) rfl) dX5_init_31 (fun H locs hM => ?_)
  have hM : mH D H0 (pI (pL (pL (pL (pI (pR S 508 h0 none) 509 h0 0) 510 h0 0) 511 h0 0) 512 h0 0) 513 h0 (-1)) kc ns H locs := hM
  have hI := hI.fe (fEq.I (S := (pL (pL (pL (pI (pR S 508 h0 none) 509 h0 0) 510 h0 0) 511 h0 0) 512 h0 0)) (f := 513) (a := h0) (v := (-1)) (by decide))
  refine lv_aload_n hx hb dX5_init_34 rfl (lv_at hl 0 rfl) ?_
  refine lv_iconst (v := 0) hx hb dX5_init_35 (by decide) ?_
  refine r_put C hM kh0 f_X5_32 (fun r h => by cases h; rfl) (nzb (by decide)) (fzb (by decide)) (mPut.I (ci := 5) (k := 14) rfl) dX5_init_36 (fun H locs hM => ?_)
  have hM : mH D H0 (pI (pI (pL (pL (pL (pI (pR S 508 h0 none) 509 h0 0) 510 h0 0) 511 h0 0) 512 h0 0) 513 h0 (-1)) 514 h0 0) kc ns H locs := hM
  have hI := hI.fe (fEq.I (S := (pI (pL (pL (pL (pI (pR S 508 h0 none) 509 h0 0) 510 h0 0) 511 h0 0) 512 h0 0) 513 h0 (-1))) (f := 514) (a := h0) (v := 0) (by decide))
  refine lv_aload_n hx hb dX5_init_39 rfl (lv_at hl 0 rfl) ?_
  refine lv_iconst (v := 0) hx hb dX5_init_40 (by decide) ?_
  refine r_put C hM kh0 f_X5_36 (fun r h => by cases h; rfl) rfl rfl (mPut.I (ci := 5) (k := 15) rfl) dX5_init_41 (fun H locs hM => ?_)
  have hM : mH D H0 (pI (pI (pI (pL (pL (pL (pI (pR S 508 h0 none) 509 h0 0) 510 h0 0) 511 h0 0) 512 h0 0) 513 h0 (-1)) 514 h0 0) 515 h0 0) kc ns H locs := hM
  have hI := hI.fe (fEq.I (S := (pI (pI (pL (pL (pL (pI (pR S 508 h0 none) 509 h0 0) 510 h0 0) 511 h0 0) 512 h0 0) 513 h0 (-1)) 514 h0 0)) (f := 515) (a := h0) (v := 0) (by decide))
  refine lv_aload_n hx hb dX5_init_44 rfl (lv_at hl 0 rfl) ?_
  refine lv_iconst (v := 0) hx hb dX5_init_45 (by decide) ?_
  refine r_put C hM kh0 f_X5_39 (fun r h => by cases h; rfl) rfl rfl (mPut.I (ci := 5) (k := 16) rfl) dX5_init_46 (fun H locs hM => ?_)
  have hM : mH D H0 (pI (pI (pI (pI (pL (pL (pL (pI (pR S 508 h0 none) 509 h0 0) 510 h0 0) 511 h0 0) 512 h0 0) 513 h0 (-1)) 514 h0 0) 515 h0 0) 516 h0 0) kc ns H locs := hM
  have hI := hI.fe (fEq.I (S := (pI (pI (pI (pL (pL (pL (pI (pR S 508 h0 none) 509 h0 0) 510 h0 0) 511 h0 0) 512 h0 0) 513 h0 (-1)) 514 h0 0) 515 h0 0)) (f := 516) (a := h0) (v := 0) (by decide))
  refine lv_aload_n hx hb dX5_init_49 rfl (lv_at hl 0 rfl) ?_
  refine lv_aload_n hx hb dX5_init_50 rfl (lv_at hl 1 rfl) ?_
  refine r_putF C hM kh0 f_X5_42 (fun r h => by cases h; exact ⟨rfl, rfl⟩) hnm rfl rfl (mPut.Rf (ci := 5) (k := 0) (x := (some h1)) rfl) dX5_init_51 (fun H locs hM => ?_)
  have hM : mH D H0 (pR (pI (pI (pI (pI (pL (pL (pL (pI (pR S 508 h0 none) 509 h0 0) 510 h0 0) 511 h0 0) 512 h0 0) 513 h0 (-1)) 514 h0 0) 515 h0 0) 516 h0 0) 500 h0 (some h1)) kc ns H locs := hM
  have hI : CI (xl x0 h0 []) u tl rho (pR (pI (pI (pI (pI (pL (pL (pL (pI (pR S 508 h0 none) 509 h0 0) 510 h0 0) 511 h0 0) 512 h0 0) 513 h0 (-1)) 514 h0 0) 515 h0 0) 516 h0 0) 500 h0 (some h1)) := CI.fill (ci := 5) (k := 0) hI kh0 kh1 (fun h => absurd rfl h) (by decide) (by decide) (by decide) (by decide)
  refine lv_aload_n hx hb dX5_init_54 rfl (lv_at hl 0 rfl) ?_
  refine lv_lload_n hx hb dX5_init_55 rfl (lv_at hl 2 rfl) ?_
  refine r_putF C hM kh0 f_X5_46 (fun r h => by cases h; exact ⟨rfl, rfl⟩) hnm rfl rfl (mPut.L (ci := 5) (k := 2) rfl) dX5_init_56 (fun H locs hM => ?_)
  have hM : mH D H0 (pL (pR (pI (pI (pI (pI (pL (pL (pL (pI (pR S 508 h0 none) 509 h0 0) 510 h0 0) 511 h0 0) 512 h0 0) 513 h0 (-1)) 514 h0 0) 515 h0 0) 516 h0 0) 500 h0 (some h1)) 502 h0 j0) kc ns H locs := hM
  have hI := hI.fe (fEq.L (S := (pR (pI (pI (pI (pI (pL (pL (pL (pI (pR S 508 h0 none) 509 h0 0) 510 h0 0) 511 h0 0) 512 h0 0) 513 h0 (-1)) 514 h0 0) 515 h0 0) 516 h0 0) 500 h0 (some h1))) (f := 502) (a := h0) (v := j0))
  refine lv_aload_n hx hb dX5_init_59 rfl (lv_at hl 0 rfl) ?_
  refine lv_aloadQ hx hb dX5_init_60 (lv_at hl 3 rfl) ?_
  refine r_putF C hM kh0 f_X5_49 (fun r h => by cases h; exact ⟨rfl, rfl⟩) hnm (by cases o0 <;> rfl) (by cases o0 <;> rfl) (mPut.Rf (ci := 5) (k := 3) (x := o0) rfl) dX5_init_62 (fun H locs hM => ?_)
  have hM : mH D H0 (pR (pL (pR (pI (pI (pI (pI (pL (pL (pL (pI (pR S 508 h0 none) 509 h0 0) 510 h0 0) 511 h0 0) 512 h0 0) 513 h0 (-1)) 514 h0 0) 515 h0 0) 516 h0 0) 500 h0 (some h1)) 502 h0 j0) 503 h0 o0) kc ns H locs := hM
  refine lv_aload_n hx hb dX5_init_65 rfl (lv_at hl 0 rfl) ?_
  refine lv_aloadQ hx hb dX5_init_66 (lv_at hl 4 rfl) ?_
  refine r_putF C hM kh0 f_X5_52 (fun r h => by cases h; exact ⟨rfl, rfl⟩) hnm (by cases o1 <;> rfl) (by cases o1 <;> rfl) (mPut.Rf (ci := 5) (k := 4) (x := o1) rfl) dX5_init_68 (fun H locs hM => ?_)
  have hM : mH D H0 (pR (pR (pL (pR (pI (pI (pI (pI (pL (pL (pL (pI (pR S 508 h0 none) 509 h0 0) 510 h0 0) 511 h0 0) 512 h0 0) 513 h0 (-1)) 514 h0 0) 515 h0 0) 516 h0 0) 500 h0 (some h1)) 502 h0 j0) 503 h0 o0) 504 h0 o1) kc ns H locs := hM
  refine lv_aload_n hx hb dX5_init_71 rfl (lv_at hl 0 rfl) ?_
  refine lv_aload_n hx hb dX5_init_72 rfl (lv_at hl 1 rfl) ?_
  refine r_getN (ci := 4) (k := 1) (v := .int (mI (pR (pR (pL (pR (pI (pI (pI (pI (pL (pL (pL (pI (pR S 508 h0 none) 509 h0 0) 510 h0 0) 511 h0 0) 512 h0 0) 513 h0 (-1)) 514 h0 0) 515 h0 0) 516 h0 0) 500 h0 (some h1)) 502 h0 j0) 503 h0 o0) 504 h0 o1) 401 h1)) C hM kh1 f_X5_55 rfl dX5_init_73 ?_
  refine lv_topi (fun x1 ex1 => ?_)
  have fx1 := NI.g401 hI.2 kh1 ex1
  refine r_putF C hM kh0 f_X5_60 (fun r h => by cases h; exact ⟨rfl, rfl⟩) hnm rfl rfl (mPut.I (ci := 5) (k := 1) rfl) dX5_init_76 (fun H locs hM => ?_)
  have hM : mH D H0 (pI (pR (pR (pL (pR (pI (pI (pI (pI (pL (pL (pL (pI (pR S 508 h0 none) 509 h0 0) 510 h0 0) 511 h0 0) 512 h0 0) 513 h0 (-1)) 514 h0 0) 515 h0 0) 516 h0 0) 500 h0 (some h1)) 502 h0 j0) 503 h0 o0) 504 h0 o1) 501 h0 x1) kc ns H locs := hM
  have hI : CI (xl x0 h0 []) u tl rho (pI (pR (pR (pL (pR (pI (pI (pI (pI (pL (pL (pL (pI (pR S 508 h0 none) 509 h0 0) 510 h0 0) 511 h0 0) 512 h0 0) 513 h0 (-1)) 514 h0 0) 515 h0 0) 516 h0 0) 500 h0 (some h1)) 502 h0 j0) 503 h0 o0) 504 h0 o1) 501 h0 x1) := CI.born (a := h0) (o := o0) (o2 := o1) (v := x1) hI kh0 hun ⟨by omega, by rw [ex1]; exact hcnt⟩ (fun q e => ⟨ko0 q e, by rw [ex1]; exact (hp0 q e).1, (hp0 q e).2⟩) (fun q e => ⟨ko1 q e, by rw [ex1]; exact (hp1 q e).1, (hp1 q e).2⟩)
  have hnum := ex1
  have hnv := (rfl : x1 = x1)
  refine lv_aload_n hx hb dX5_init_79 rfl (lv_at hl 0 rfl) ?_
  refine lv_aload_n hx hb dX5_init_80 rfl (lv_at hl 1 rfl) ?_
  refine lv_aload_n hx hb dX5_init_81 rfl (lv_at hl 1 rfl) ?_
  refine r_getN (ci := 4) (k := 1) (v := .int (mI (pI (pR (pR (pL (pR (pI (pI (pI (pI (pL (pL (pL (pI (pR S 508 h0 none) 509 h0 0) 510 h0 0) 511 h0 0) 512 h0 0) 513 h0 (-1)) 514 h0 0) 515 h0 0) 516 h0 0) 500 h0 (some h1)) 502 h0 j0) 503 h0 o0) 504 h0 o1) 501 h0 x1) 401 h1)) C hM kh1 f_X5_55 rfl dX5_init_82 ?_
  refine lv_topi (fun x2 ex2 => ?_)
  have fx2 := NI.g401 hI.2 kh1 ex2
  have gx2 : x2 = x1 := ex2.trans (ex1.symm)
  have hx2 : x2.toInt = x1.toInt := by rw [gx2]
  refine lv_iconst (v := 1) hx hb dX5_init_85 (by decide) ?_
  refine lv_isub hx hb dX5_init_86 ?_
  refine lv_topi (fun x3 ex3 => ?_)
  try (have tx3 := subI (a := x2) (b := 1) (by omega) (by omega); rw [← ex3] at tx3)
  refine r_VN (As := [.int x3]) (rest := [.ref h0]) (ci := 4) C hM (c_X4_at l D H0 (pI (pR (pR (pL (pR (pI (pI (pI (pI (pL (pL (pL (pI (pR S 508 h0 none) 509 h0 0) 510 h0 0) 511 h0 0) 512 h0 0) 513 h0 (-1)) 514 h0 0) 515 h0 0) 516 h0 0) 500 h0 (some h1)) 502 h0 j0) 503 h0 o0) 504 h0 o1) 501 h0 x1) kc ns h1 x3 hI (fun z => by simp [xl, x0] at z) kh1) i_X4_at m_X5_63 kh1 rfl rfl rfl hl.1 rfl (Nat.le_of_ble_eq_true rfl) ⟨by decide, by decide⟩ ⟨by decide, by decide⟩ dX5_init_87 (fun r7 S4 k5 n6 H locs p8 hM => ?_)
  obtain ⟨rfl, rfl, rfl, kr7⟩ := p8
  refine W.eq (g2 := F0 m 90 ls [va_rf r7, .ref h0]) rfl ?_
  refine r_S (As := [va_rf r7]) (rest := [.ref h0]) C hM (c_X5_labelBehind l D H0 (pI (pR (pR (pL (pR (pI (pI (pI (pI (pL (pL (pL (pI (pR S 508 h0 none) 509 h0 0) 510 h0 0) 511 h0 0) 512 h0 0) 513 h0 (-1)) 514 h0 0) 515 h0 0) 516 h0 0) 500 h0 (some h1)) 502 h0 j0) 503 h0 o0) 504 h0 o1) 501 h0 x1) kc ns r7 hI (kr7)) i_X5_labelBehind m_X5_67 rfl hl.1 rfl (Nat.le_of_ble_eq_true rfl) ⟨by decide, by decide⟩ ⟨by decide, by decide⟩ dX5_init_90 (fun r12 S9 k10 n11 H locs p13 hM => ?_)
  obtain ⟨rfl, rfl, rfl, kr12⟩ := p13
  refine W.eq (g2 := F0 m 93 ls [va_rf r12, .ref h0]) rfl ?_
  refine r_putF C hM kh0 f_X5_71 (fun r h => by cases h; exact ⟨rfl, rfl⟩) hnm (by cases r12 <;> rfl) (by cases r12 <;> rfl) (mPut.Rf (ci := 5) (k := 5) (x := r12) rfl) dX5_init_93 (fun H locs hM => ?_)
  have hM : mH D H0 (pR (pI (pR (pR (pL (pR (pI (pI (pI (pI (pL (pL (pL (pI (pR S 508 h0 none) 509 h0 0) 510 h0 0) 511 h0 0) 512 h0 0) 513 h0 (-1)) 514 h0 0) 515 h0 0) 516 h0 0) 500 h0 (some h1)) 502 h0 j0) 503 h0 o0) 504 h0 o1) 501 h0 x1) 505 h0 r12) kc ns H locs := hM
  have hI : CI (xl x0 h0 []) u tl rho (pR (pI (pR (pR (pL (pR (pI (pI (pI (pI (pL (pL (pL (pI (pR S 508 h0 none) 509 h0 0) 510 h0 0) 511 h0 0) 512 h0 0) 513 h0 (-1)) 514 h0 0) 515 h0 0) 516 h0 0) 500 h0 (some h1)) 502 h0 j0) 503 h0 o0) 504 h0 o1) 501 h0 x1) 505 h0 r12) := CI.putR (ci := 5) (k := 5) hI kh0 (fun z h => ⟨kr12 z h, fun h => absurd rfl h⟩) (Or.inl rfl) (by decide) (by decide) (by decide)
  refine lv_aload_n hx hb dX5_init_96 rfl (lv_at hl 0 rfl) ?_
  refine lv_aloadQ hx hb dX5_init_97 (lv_at hl 4 rfl) ?_
  refine lv_lload_n hx hb dX5_init_99 rfl (lv_at hl 2 rfl) ?_
  refine r_S (As := [va_rf o1, .long j0]) (rest := [.ref h0]) C hM (c_X5_turnBehind l D H0 (pR (pI (pR (pR (pL (pR (pI (pI (pI (pI (pL (pL (pL (pI (pR S 508 h0 none) 509 h0 0) 510 h0 0) 511 h0 0) 512 h0 0) 513 h0 (-1)) 514 h0 0) 515 h0 0) 516 h0 0) 500 h0 (some h1)) 502 h0 j0) 503 h0 o0) 504 h0 o1) 501 h0 x1) 505 h0 r12) kc ns o1 j0 hI (ko1)) i_X5_turnBehind m_X5_74 rfl hl.1 rfl (Nat.le_of_ble_eq_true rfl) ⟨by decide, by decide⟩ ⟨by decide, by decide⟩ dX5_init_100 (fun x17 S14 k15 n16 H locs p18 hM => ?_)
  obtain ⟨rfl, rfl, rfl, hx17⟩ := p18
  refine W.eq (g2 := F0 m 103 ls [.int x17, .ref h0]) rfl ?_
  refine r_putF C hM kh0 f_X5_78 (fun r h => by cases h; exact ⟨rfl, rfl⟩) hnm rfl rfl (mPut.I (ci := 5) (k := 6) rfl) dX5_init_103 (fun H locs hM => ?_)
  have hM : mH D H0 (pI (pR (pI (pR (pR (pL (pR (pI (pI (pI (pI (pL (pL (pL (pI (pR S 508 h0 none) 509 h0 0) 510 h0 0) 511 h0 0) 512 h0 0) 513 h0 (-1)) 514 h0 0) 515 h0 0) 516 h0 0) 500 h0 (some h1)) 502 h0 j0) 503 h0 o0) 504 h0 o1) 501 h0 x1) 505 h0 r12) 506 h0 x17) kc ns H locs := hM
  have hI := hI.fe (fEq.I (S := (pR (pI (pR (pR (pL (pR (pI (pI (pI (pI (pL (pL (pL (pI (pR S 508 h0 none) 509 h0 0) 510 h0 0) 511 h0 0) 512 h0 0) 513 h0 (-1)) 514 h0 0) 515 h0 0) 516 h0 0) 500 h0 (some h1)) 502 h0 j0) 503 h0 o0) 504 h0 o1) 501 h0 x1) 505 h0 r12)) (f := 506) (a := h0) (v := x17) (by decide))
  refine lv_aload_n hx hb dX5_init_106 rfl (lv_at hl 0 rfl) ?_
  refine lv_aloadQ hx hb dX5_init_107 (lv_at hl 3 rfl) ?_
  cases o0 with
  | none =>
    refine lv_ifnonnullN hx hb dX5_init_109 ?_
    refine lv_iconst (v := 0) hx hb dX5_init_112 (by decide) ?_
    refine lv_goto (tgt := 123) hx hb dX5_init_113 (by decide) ?_
    refine r_putF C hM kh0 f_X5_81 (fun r h => by cases h; exact ⟨rfl, rfl⟩) hnm rfl rfl (mPut.I (ci := 5) (k := 7) rfl) dX5_init_123 (fun H locs hM => ?_)
    have hM : mH D H0 (pI (pI (pR (pI (pR (pR (pL (pR (pI (pI (pI (pI (pL (pL (pL (pI (pR S 508 h0 none) 509 h0 0) 510 h0 0) 511 h0 0) 512 h0 0) 513 h0 (-1)) 514 h0 0) 515 h0 0) 516 h0 0) 500 h0 (some h1)) 502 h0 j0) 503 h0 none) 504 h0 o1) 501 h0 x1) 505 h0 r12) 506 h0 x17) 507 h0 0) kc ns H locs := hM
    have hI := hI.fe (fEq.I (S := (pI (pR (pI (pR (pR (pL (pR (pI (pI (pI (pI (pL (pL (pL (pI (pR S 508 h0 none) 509 h0 0) 510 h0 0) 511 h0 0) 512 h0 0) 513 h0 (-1)) 514 h0 0) 515 h0 0) 516 h0 0) 500 h0 (some h1)) 502 h0 j0) 503 h0 none) 504 h0 o1) 501 h0 x1) 505 h0 r12) 506 h0 x17)) (f := 507) (a := h0) (v := 0) (by decide))
    exact r_retV C hr hlk hM (⟨rfl, rfl, hK9, CI.full hI, fun q hq => by simp [mI, up2, hq], by simp [mI, up2]; exact hnum, fun q => by simp [mI, up2], fun f b hb => by simp [mR, up2, hb]⟩) dX5_init_126
  | some q19 =>
    have kq19 : mK _ q19 = 6 := ko0 q19 rfl
    refine lv_ifnonnull (tgt := 116) hx hb dX5_init_109 (by decide) ?_
    refine lv_aload hx hb dX5_init_116 (lv_at hl 3 rfl) ?_
    refine r_get (ci := 5) (k := 7) (v := .int (mI (pI (pR (pI (pR (pR (pL (pR (pI (pI (pI (pI (pL (pL (pL (pI (pR S 508 h0 none) 509 h0 0) 510 h0 0) 511 h0 0) 512 h0 0) 513 h0 (-1)) 514 h0 0) 515 h0 0) 516 h0 0) 500 h0 (some h1)) 502 h0 j0) 503 h0 (some q19)) 504 h0 o1) 501 h0 x1) 505 h0 r12) 506 h0 x17) 507 q19)) C hM kq19 f_X5_81 rfl dX5_init_118 ?_
    refine lv_topi (fun x20 ex20 => ?_)
    refine lv_iconst (v := 1) hx hb dX5_init_121 (by decide) ?_
    refine lv_iadd hx hb dX5_init_122 ?_
    refine lv_topi (fun x21 ex21 => ?_)
    try (have tx21 := addI (a := x20) (b := 1) (by omega) (by omega); rw [← ex21] at tx21)
    refine r_putF C hM kh0 f_X5_81 (fun r h => by cases h; exact ⟨rfl, rfl⟩) hnm rfl rfl (mPut.I (ci := 5) (k := 7) rfl) dX5_init_123 (fun H locs hM => ?_)
    have hM : mH D H0 (pI (pI (pR (pI (pR (pR (pL (pR (pI (pI (pI (pI (pL (pL (pL (pI (pR S 508 h0 none) 509 h0 0) 510 h0 0) 511 h0 0) 512 h0 0) 513 h0 (-1)) 514 h0 0) 515 h0 0) 516 h0 0) 500 h0 (some h1)) 502 h0 j0) 503 h0 (some q19)) 504 h0 o1) 501 h0 x1) 505 h0 r12) 506 h0 x17) 507 h0 x21) kc ns H locs := hM
    have hI := hI.fe (fEq.I (S := (pI (pR (pI (pR (pR (pL (pR (pI (pI (pI (pI (pL (pL (pL (pI (pR S 508 h0 none) 509 h0 0) 510 h0 0) 511 h0 0) 512 h0 0) 513 h0 (-1)) 514 h0 0) 515 h0 0) 516 h0 0) 500 h0 (some h1)) 502 h0 j0) 503 h0 (some q19)) 504 h0 o1) 501 h0 x1) 505 h0 r12) 506 h0 x17)) (f := 507) (a := h0) (v := x21) (by decide))
    exact r_retV C hr hlk hM (⟨rfl, rfl, hK9, CI.full hI, fun q hq => by simp [mI, up2, hq], by simp [mI, up2]; exact hnum, fun q => by simp [mI, up2], fun f b hb => by simp [mR, up2, hb]⟩) dX5_init_126
set_option maxHeartbeats 4000000 in
set_option maxRecDepth 100000 in
theorem c_X4_add (l : Launch) (D : gD) (H0 : Heap) (S : Mem) (kc ns : Nat) (h0 : Nat) (j0 : Int64) (o0 o1 : Option Nat) {u : Nat} {tl : Int} {rho : Nat} (hI : CI x0 u tl rho S) (hu : u < 2000000000) (kh0 : mK S h0 = 5) (ko0 : ∀ q, o0 = some q → mK S q = 6) (ko1 : ∀ q, o1 = some q → mK S q = 6) (hp0 : ∀ q, o0 = some q → (mI S 501 q).toInt < (mI S 401 h0).toInt) (hp1 : ∀ q, o1 = some q → (mI S 501 q).toInt < (mI S 401 h0).toInt) : Met l yX4_add (wsU yX4_add cX4_add 7 (some (.object "ClickBench$Part"))) ({ frames := 2, cells := 1, slots := 17, locals := 48 } : Room) (mP D H0 S kc ns [.ref h0, .long j0, va_rf o0, va_rf o1]) (mQ D H0 gR (fun r S1 k1 n1 => mX S S1 ∧ CI x0 (u + 61) tl rho S1 ∧ (∀ b, mK S b = 6 → mI S1 501 b = mI S 501 b) ∧ (∀ b, mK S b = 7 → mR S1 604 b = mR S 604 b ∧ mR S1 605 b = mR S 605 b) ∧ (mI S 401 h0).toInt ≤ (mI S1 401 h0).toInt ∧ ((k1 : Int) - kc = (mI S1 401 h0).toInt - (mI S 401 h0).toInt ∧ (n1 : Int) - ns = 17 * ((mI S1 401 h0).toInt - (mI S 401 h0).toInt)) ∧ ∀ q, r = some q → mK S1 q = 6 ∧ (mI S1 501 q).toInt < (mI S1 401 h0).toInt)) 1 17 (mF H0) := by
  refine r_met (own := RX4) (by decide +kernel) rfl (by simp [lg_sl, cat_rf, cat_i, cat_l, cat_a, cat_n]) ?_
  intro p e s m args below meth c C hr hlk hnm H ls hl hM
  obtain ⟨hx, hb, hml, hown, hts, -, -⟩ := id C
  have hl : lv_has ls 7 [(0, .ref h0), (1, .long j0), (3, va_rf o0), (4, va_rf o1)] := by simpa [lv_args, cat_rf, cat_i, cat_l, cat_a, cat_n] using hl
  have hI0 := hI
  have hX : mX S S := mX.rf
  have t_0 : (0 : Int32).toInt = 0 := by decide
  have t_1 : (1 : Int32).toInt = 1 := by decide
  have t_60 : (60 : Int32).toInt = 60 := by decide
  have kh0a := kh0
  have ko0a := ko0
  have ko1a := ko1
  refine lv_aload_n hx hb dX4_add_0 rfl (lv_at hl 0 rfl) ?_
  refine r_get (ci := 4) (k := 1) (v := .int (mI S 401 h0)) C hM kh0 f_X4_17 rfl dX4_add_1 ?_
  refine lv_topi (fun x1 ex1 => ?_)
  have fx1 := NI.g401 hI.2 kh0 ex1
  refine lv_bipush (v := 60) hx hb dX4_add_4 (by decide) ?_
  refine lv_icmp_lt (tgt := 11) hx hb dX4_add_6 (by decide) (fun c2 => ?_) (fun c2 => ?_)
  · have tc2 := ltT c2
    refine r_new (ci := 5) C hM rfl k_X4_9 in_X5 ini_X5 (by decide) (by decide) dX4_add_11 (fun q3 H zq3 hM => ?_)
    have hM : mH D H0 (nO S q3 5) (kc + 1) (ns + 17) H [] := hM
    have kh0 : mK (nO S q3 5) h0 = 5 := (mX.O (S := S) (a := q3) (ci := 5) zq3).k kh0
    have ko0 : ∀ q, o0 = some q → mK (nO S q3 5) q = 6 := fun q h => (mX.O (S := S) (a := q3) (ci := 5) zq3).k (ko0 q h)
    have ko1 : ∀ q, o1 = some q → mK (nO S q3 5) q = 6 := fun q h => (mX.O (S := S) (a := q3) (ci := 5) zq3).k (ko1 q h)
    have kq3 : mK (nO S q3 5) q3 = 6 := kO
    have hX := hX.trans (mX.O (ci := 5) zq3)
    have hI := CI.newO (ci := 5) hI zq3 (by decide) (by decide)
    have hI : CI (xl x0 q3 [500]) u tl rho (nO S q3 5) := CI.todo (ci := 5) hI kq3 (by decide)
    have hc9 : ∀ f b, b ≠ q3 → mI (nO S q3 5) f b = mI S f b := fun f b h => cl2_ne h
    have hh9 : h0 ≠ q3 := ne9 zq3 kh0a
    have hcnt9 : (mI (nO S q3 5) 401 h0).toInt < 60 := by rw [hc9 401 h0 hh9, ← ex1]; omega
    have hp09 : ∀ z, o0 = some z → (mI (nO S q3 5) 501 z).toInt < (mI (nO S q3 5) 401 h0).toInt ∧ z ≠ q3 := fun z h => by have hz := ne9 zq3 (ko0a z h); rw [hc9 501 z hz, hc9 401 h0 hh9]; exact ⟨hp0 z h, hz⟩
    have hp19 : ∀ z, o1 = some z → (mI (nO S q3 5) 501 z).toInt < (mI (nO S q3 5) 401 h0).toInt ∧ z ≠ q3 := fun z h => by have hz := ne9 zq3 (ko1a z h); rw [hc9 501 z hz, hc9 401 h0 hh9]; exact ⟨hp1 z h, hz⟩
    have hun9 := un9 hI0 zq3
    have hz9 := zq3
    refine lv_dup hx hb dX4_add_14 rfl ?_
    refine lv_aload_n hx hb dX4_add_15 rfl (lv_at hl 0 rfl) ?_
    refine lv_lload_n hx hb dX4_add_16 rfl (lv_at hl 1 rfl) ?_
    refine lv_aload_nQ hx hb dX4_add_17 rfl (lv_at hl 2 rfl) ?_
    refine lv_aloadQ hx hb dX4_add_18 (lv_at hl 3 rfl) ?_
    refine r_IN (As := [.ref h0, .long j0, va_rf o0, va_rf o1]) (rest := [.ref q3]) C hM (c_X5_init l D H0 (nO S q3 5) (kc + 1) (ns + 17) q3 h0 j0 o0 o1 hI kq3 kh0 (ko0) (ko1) hcnt9 hp09 hp19 hun9) i_X5_init m_X4_21 rfl hl.1 rfl (Nat.le_of_ble_eq_true rfl) ⟨by decide, by decide⟩ ⟨by decide, by decide⟩ dX4_add_20 (fun u7 S4 k5 n6 H locs p8 hM => ?_)
    obtain ⟨rfl, rfl, hk9, hI, hN1, hN2, hN3, hN4⟩ := p8
    have kh0 : mK S4 h0 = 5 := (congrFun (hk9) h0).trans kh0
    have ko0 : ∀ q, o0 = some q → mK S4 q = 6 := fun q h => (congrFun (hk9) q).trans (ko0 q h)
    have ko1 : ∀ q, o1 = some q → mK S4 q = 6 := fun q h => (congrFun (hk9) q).trans (ko1 q h)
    have kq3 : mK S4 q3 = 6 := (congrFun (hk9) q3).trans kq3
    have hX := hX.trans (mX.of hk9)
    refine W.eq (g2 := F0 m 23 ls [.ref q3]) rfl ?_
    have hE1 : ∀ b, mK S b = 6 → mI S4 501 b = mI S 501 b := fun b hb => (hN1 b (ne9 hz9 hb)).trans (hc9 501 b (ne9 hz9 hb))
    have hE2 : ∀ b, mK S b = 7 → mR S4 604 b = mR S 604 b ∧ mR S4 605 b = mR S 605 b := fun b hb => ⟨(hN4 604 b (ne9 hz9 hb)).trans (cl2_ne (ne9 hz9 hb)), (hN4 605 b (ne9 hz9 hb)).trans (cl2_ne (ne9 hz9 hb))⟩
    have hE3 : mI S4 401 h0 = mI S 401 h0 := (hN3 h0).trans (hc9 401 h0 hh9)
    have hE4 : mI S4 501 q3 = mI S 401 h0 := hN2.trans (hc9 401 h0 hh9)
    refine lv_astore (lv' := [(5, .ref q3), (0, .ref h0), (1, .long j0), (3, va_rf o0), (4, va_rf o1)]) hx hb dX4_add_23 hl (by decide) (by simp [cat_rf, cat_i, cat_l, cat_a, cat_n]) (fun ls hl => ?_)
    refine lv_aloadQ hx hb dX4_add_25 (lv_at hl 4 rfl) ?_
    cases o1 with
    | none =>
      refine lv_ifnullN (tgt := 37) hx hb dX4_add_27 (by decide) ?_
      refine lv_aload_nQ hx hb dX4_add_37 rfl (lv_at hl 3 rfl) ?_
      refine lv_astoreQ (lv' := [(6, va_rf o0), (5, .ref q3), (0, .ref h0), (1, .long j0), (3, va_rf o0), (4, .null)]) hx hb dX4_add_38 hl (by decide) rfl (fun ls hl => ?_)
      have hI : CI x0 (u + (61 - cm S4 o0)) tl rho S4 := CI.ccLe hI (by omega)
      have loop40 : ∀ (fu : Nat) (o : Option Nat) (Sa : Mem) (H : Heap) (locs : List Loc) (ls : Array Slot), (mX S Sa) → (CI x0 (u + (61 - cm Sa o)) tl rho Sa) → (∀ b, mK S b = 6 → mI Sa 501 b = mI S 501 b) → (∀ b, mK S b = 7 → mR Sa 604 b = mR S 604 b ∧ mR Sa 605 b = mR S 605 b) → (mI Sa 401 h0 = mI S 401 h0) → (mI Sa 501 q3 = mI S 401 h0) → (mK Sa q3 = 6) → (mK Sa h0 = 5) → (∀ z, o = some z → mK Sa z = 6) → cm Sa o < fu → lv_has ls 7 [(0, .ref h0), (1, .long j0), (3, va_rf o0), (4, .null), (5, .ref q3), (6, va_rf o)] → mH D H0 Sa (kc + 1) (ns + 17) H locs → W p l e ({ frames := 2, cells := 1, slots := 17, locals := 48 } : Room) s m args below meth c H locs (0 + 1) (0 + 17) (MQ below (mQ D H0 gR (fun r S1 k1 n1 => mX S S1 ∧ CI x0 (u + 61) tl rho S1 ∧ (∀ b, mK S b = 6 → mI S1 501 b = mI S 501 b) ∧ (∀ b, mK S b = 7 → mR S1 604 b = mR S 604 b ∧ mR S1 605 b = mR S 605 b) ∧ (mI S 401 h0).toInt ≤ (mI S1 401 h0).toInt ∧ ((k1 : Int) - kc = (mI S1 401 h0).toInt - (mI S 401 h0).toInt ∧ (n1 : Int) - ns = 17 * ((mI S1 401 h0).toInt - (mI S 401 h0).toInt)) ∧ ∀ q, r = some q → mK S1 q = 6 ∧ (mI S1 501 q).toInt < (mI S1 401 h0).toInt)) args s 1 17 (mF H0)) (F0 m 40 ls []) := by
        intro fu
        induction fu with
        | zero => intro o Sa H locs ls h40_0 h40_1 h40_2 h40_3 h40_4 h40_5 h40_6 h40_7 h40_8 hfu; exact absurd hfu (by omega)
        | succ fu ih40 =>
          intro o Sa H locs ls h40_0 h40_1 h40_2 h40_3 h40_4 h40_5 h40_6 h40_7 h40_8 hfu hl hM
          have hX := h40_0
          have hI := h40_1
          have kq3 := h40_6
          have kh0 := h40_7
          have ko := h40_8
          have hE1 := h40_2
          have hE2 := h40_3
          have hE3 := h40_4
          have hE4 := h40_5
          refine lv_aloadQ hx hb dX4_add_40 (lv_at hl 5 rfl) ?_
          cases o with
          | none =>
            refine lv_ifnullN (tgt := 66) hx hb dX4_add_42 (by decide) ?_
            refine lv_aload_n hx hb dX4_add_66 rfl (lv_at hl 0 rfl) ?_
            obtain ⟨q11, eq11, kq11, nq11⟩ := TI.nn hI.1 (ci := 4) (k := 0) kh0
            refine r_get (ci := 4) (k := 0) (v := .ref q11) C hM kh0 f_X4_11 (congrArg va_rf eq11) dX4_add_67 ?_
            refine lv_aload_n hx hb dX4_add_70 rfl (lv_at hl 0 rfl) ?_
            refine r_get (ci := 4) (k := 1) (v := .int (mI Sa 401 h0)) C hM kh0 f_X4_17 rfl dX4_add_71 ?_
            refine lv_topi (fun x12 ex12 => ?_)
            have fx12 := NI.g401 hI.2 kh0 ex12
            have h71 : x12.toInt < 60 := by rw [ex12, hE3, ← ex1]; omega
            have h72 : x12 = mI S 401 h0 := ex12.trans hE3
            refine lv_aload hx hb dX4_add_74 (lv_at hl 4 rfl) ?_
            refine r_aast (t := 0) (ci := 5) (o := (some q3)) C hM kq11 (by decide) rfl rfl (fun q h => by cases h; exact kq3) (inI (by omega) (by rw [nq11 (by decide)]; show _ < (60 : Int); omega)) dX4_add_76 (fun H locs hM => ?_)
            have hM : mH D H0 (qR Sa q11 x12.toNatClampNeg (some q3)) (kc + 1) (ns + 17) H locs := hM
            have hI := CI.putA (i := x12.toNatClampNeg) (o := (some q3)) hI kq11 (fun q h => by cases h; exact kq3)
            refine lv_aload_n hx hb dX4_add_77 rfl (lv_at hl 0 rfl) ?_
            refine lv_dup hx hb dX4_add_78 rfl ?_
            refine r_get (ci := 4) (k := 1) (v := .int (mI (qR Sa q11 x12.toNatClampNeg (some q3)) 401 h0)) C hM kh0 f_X4_17 rfl dX4_add_79 ?_
            refine lv_topi (fun x13 ex13 => ?_)
            have fx13 := NI.g401 hI.2 kh0 ex13
            have gx13 : x13 = x12 := ex13.trans (ex12.symm)
            have hx13 : x13.toInt = x12.toInt := by rw [gx13]
            refine lv_iconst (v := 1) hx hb dX4_add_82 (by decide) ?_
            refine lv_iadd hx hb dX4_add_83 ?_
            refine lv_topi (fun x14 ex14 => ?_)
            try (have tx14 := addI (a := x13) (b := 1) (by omega) (by omega); rw [← ex14] at tx14)
            refine r_put C hM kh0 f_X4_17 (fun r h => by cases h; rfl) rfl rfl (mPut.I (ci := 4) (k := 1) rfl) dX4_add_84 (fun H locs hM => ?_)
            have hM : mH D H0 (pI (qR Sa q11 x12.toNatClampNeg (some q3)) 401 h0 x14) (kc + 1) (ns + 17) H locs := hM
            have hI := CI.p401 (a := h0) (v := x14) hI ⟨by omega, by omega⟩
            have h84 : (mI (pI (qR Sa q11 x12.toNatClampNeg (some q3)) 401 h0 x14) 401 h0).toInt = (mI S 401 h0).toInt + 1 := by rw [show mI (pI (qR Sa q11 x12.toNatClampNeg (some q3)) 401 h0 x14) 401 h0 = x14 from up2_eq, ← h72]; omega
            have h85 : (mI (pI (qR Sa q11 x12.toNatClampNeg (some q3)) 401 h0 x14) 501 q3 ).toInt = (mI S 401 h0).toInt := congrArg Int32.toInt hE4
            refine lv_aload hx hb dX4_add_87 (lv_at hl 4 rfl) ?_
            refine W.widen (k := 1) (n := 17) (by first | decide | omega) (by first | decide | omega) ?_
            exact r_retR (v := (some q3)) C hr hlk hM (⟨hX, CI.ccLe hI (by omega), fun b hb => hE1 b hb, fun b hb => hE2 b hb, by omega, ⟨by omega, by omega⟩, fun z h => by cases h; exact ⟨kq3 , by omega⟩⟩) dX4_add_89
          | some q10 =>
            have kq10 : mK Sa q10 = 6 := ko q10 rfl
            refine lv_ifnull hx hb dX4_add_42 ?_
            refine lv_aload hx hb dX4_add_45 (lv_at hl 5 rfl) ?_
            refine lv_dup hx hb dX4_add_47 rfl ?_
            refine r_getN (ci := 5) (k := 9) (v := .int (mI Sa 509 q10)) C hM kq10 f_X4_28 rfl dX4_add_48 ?_
            refine lv_topi (fun x15 ex15 => ?_)
            have fx15 := NI.g509 hI.2 kq10 ex15
            refine lv_iconst (v := 1) hx hb dX4_add_51 (by decide) ?_
            refine lv_iadd hx hb dX4_add_52 ?_
            refine lv_topi (fun x16 ex16 => ?_)
            try (have tx16 := addI (a := x15) (b := 1) (by omega) (by omega); rw [← ex16] at tx16)
            refine r_putN C hM kq10 f_X4_28 (fun r h => by cases h; rfl) rfl rfl (mPut.I (ci := 5) (k := 9) rfl) dX4_add_53 (fun H locs hM => ?_)
            have hM : mH D H0 (pI Sa 509 q10 x16) (kc + 1) (ns + 17) H locs := hM
            have hI := CI.p509 (a := q10 ) (v := x16) (CI.ccLe hI (Nat.le_succ _)) ⟨by omega, by omega⟩
            refine lv_aload hx hb dX4_add_56 (lv_at hl 5 rfl) ?_
            refine r_getN (ci := 5) (k := 3) C hM kq10 f_X4_31 rfl dX4_add_58 ?_
            obtain ⟨r17, er17, kr17⟩ : ∃ r : Option Nat, mR (pI Sa 509 q10 x16) 503 q10 = r ∧ ∀ q, r = some q → mK (pI Sa 509 q10 x16) q = 6 := ⟨_, rfl, TI.opt hI.1 (ci := 5) (k := 3) kq10⟩
            refine W.eq (g2 := F0 m 61 ls [va_rf r17]) (by rw [← er17]; rfl) ?_
            refine lv_astoreQ (lv' := [(6, va_rf r17), (0, .ref h0), (1, .long j0), (3, va_rf o0), (4, .null), (5, .ref q3)]) hx hb dX4_add_61 hl (by decide) rfl (fun ls hl => ?_)
            refine lv_goto (tgt := 40) hx hb dX4_add_63 (by decide) ?_
            have h96 := cm503 hI kq10; rw [er17] at h96
            have h97 : cm (pI Sa 509 q10 x16) (some q10) = cm Sa (some q10) := rfl
            have h98 := cm60 hI kq10
            have hI := CI.ccLe (c' := u + (61 - cm (pI Sa 509 q10 x16) r17 )) hI (by omega)
            have hE1 : ∀ b, mK S b = 6 → mI (pI Sa 509 q10 x16) 501 b = mI S 501 b := hE1
            have hE2 : ∀ b, mK S b = 7 → mR (pI Sa 509 q10 x16) 604 b = mR S 604 b ∧ mR (pI Sa 509 q10 x16) 605 b = mR S 605 b := hE2
            exact ih40 r17 (pI Sa 509 q10 x16) _ _ _ (hX) (hI) (hE1) (hE2) (hE3) (hE4) (kq3) (kh0) (kr17) (by omega) (lv_sub hl [1, 2, 3, 4, 5, 0] rfl) hM
      exact loop40 ((cm S4 o0) + 1) o0 S4 _ _ _ (hX) (hI) (hE1) (hE2) (hE3) (hE4) (kq3) (kh0) (ko0) (by omega) (lv_sub hl [2, 3, 4, 5, 1, 0] rfl) hM
    | some q9 =>
      have kq9 : mK S4 q9 = 6 := ko1 q9 rfl
      refine lv_ifnull hx hb dX4_add_27 ?_
      refine lv_aload hx hb dX4_add_30 (lv_at hl 4 rfl) ?_
      refine lv_aload hx hb dX4_add_32 (lv_at hl 0 rfl) ?_
      refine r_putN C hM kq9 f_X4_24 (fun r h => by cases h; rfl) rfl rfl (mPut.Rf (ci := 5) (k := 8) (x := (some q3)) rfl) dX4_add_34 (fun H locs hM => ?_)
      have hM : mH D H0 (pR S4 508 q9 (some q3)) (kc + 1) (ns + 17) H locs := hM
      have hI : CI x0 u tl rho (pR S4 508 q9 (some q3)) := CI.putR (ci := 5) (k := 8) hI kq9 (fun z h => by cases h; exact ⟨kq3, fun h => absurd rfl h⟩) (Or.inl rfl) (by decide) (by decide) (by decide)
      refine lv_aload_nQ hx hb dX4_add_37 rfl (lv_at hl 3 rfl) ?_
      refine lv_astoreQ (lv' := [(6, va_rf o0), (5, .ref q3), (0, .ref h0), (1, .long j0), (3, va_rf o0), (4, .ref q9)]) hx hb dX4_add_38 hl (by decide) rfl (fun ls hl => ?_)
      have hI : CI x0 (u + (61 - cm (pR S4 508 q9 (some q3)) o0)) tl rho (pR S4 508 q9 (some q3)) := CI.ccLe hI (by omega)
      have loop40 : ∀ (fu : Nat) (o : Option Nat) (Sa : Mem) (H : Heap) (locs : List Loc) (ls : Array Slot), (mX S Sa) → (CI x0 (u + (61 - cm Sa o)) tl rho Sa) → (∀ b, mK S b = 6 → mI Sa 501 b = mI S 501 b) → (∀ b, mK S b = 7 → mR Sa 604 b = mR S 604 b ∧ mR Sa 605 b = mR S 605 b) → (mI Sa 401 h0 = mI S 401 h0) → (mI Sa 501 q3 = mI S 401 h0) → (mK Sa q3 = 6) → (mK Sa h0 = 5) → (∀ z, o = some z → mK Sa z = 6) → cm Sa o < fu → lv_has ls 7 [(0, .ref h0), (1, .long j0), (3, va_rf o0), (4, .ref q9), (5, .ref q3), (6, va_rf o)] → mH D H0 Sa (kc + 1) (ns + 17) H locs → W p l e ({ frames := 2, cells := 1, slots := 17, locals := 48 } : Room) s m args below meth c H locs (0 + 1) (0 + 17) (MQ below (mQ D H0 gR (fun r S1 k1 n1 => mX S S1 ∧ CI x0 (u + 61) tl rho S1 ∧ (∀ b, mK S b = 6 → mI S1 501 b = mI S 501 b) ∧ (∀ b, mK S b = 7 → mR S1 604 b = mR S 604 b ∧ mR S1 605 b = mR S 605 b) ∧ (mI S 401 h0).toInt ≤ (mI S1 401 h0).toInt ∧ ((k1 : Int) - kc = (mI S1 401 h0).toInt - (mI S 401 h0).toInt ∧ (n1 : Int) - ns = 17 * ((mI S1 401 h0).toInt - (mI S 401 h0).toInt)) ∧ ∀ q, r = some q → mK S1 q = 6 ∧ (mI S1 501 q).toInt < (mI S1 401 h0).toInt)) args s 1 17 (mF H0)) (F0 m 40 ls []) := by
        intro fu
        induction fu with
        | zero => intro o Sa H locs ls h40_0 h40_1 h40_2 h40_3 h40_4 h40_5 h40_6 h40_7 h40_8 hfu; exact absurd hfu (by omega)
        | succ fu ih40 =>
          intro o Sa H locs ls h40_0 h40_1 h40_2 h40_3 h40_4 h40_5 h40_6 h40_7 h40_8 hfu hl hM
          have hX := h40_0
          have hI := h40_1
          have kq3 := h40_6
          have kh0 := h40_7
          have ko := h40_8
          have hE1 := h40_2
          have hE2 := h40_3
          have hE3 := h40_4
          have hE4 := h40_5
          refine lv_aloadQ hx hb dX4_add_40 (lv_at hl 5 rfl) ?_
          cases o with
          | none =>
            refine lv_ifnullN (tgt := 66) hx hb dX4_add_42 (by decide) ?_
            refine lv_aload_n hx hb dX4_add_66 rfl (lv_at hl 0 rfl) ?_
            obtain ⟨q19, eq19, kq19, nq19⟩ := TI.nn hI.1 (ci := 4) (k := 0) kh0
            refine r_get (ci := 4) (k := 0) (v := .ref q19) C hM kh0 f_X4_11 (congrArg va_rf eq19) dX4_add_67 ?_
            refine lv_aload_n hx hb dX4_add_70 rfl (lv_at hl 0 rfl) ?_
            refine r_get (ci := 4) (k := 1) (v := .int (mI Sa 401 h0)) C hM kh0 f_X4_17 rfl dX4_add_71 ?_
            refine lv_topi (fun x20 ex20 => ?_)
            have fx20 := NI.g401 hI.2 kh0 ex20
            have h71 : x20.toInt < 60 := by rw [ex20, hE3, ← ex1]; omega
            have h72 : x20 = mI S 401 h0 := ex20.trans hE3
            refine lv_aload hx hb dX4_add_74 (lv_at hl 4 rfl) ?_
            refine r_aast (t := 0) (ci := 5) (o := (some q3)) C hM kq19 (by decide) rfl rfl (fun q h => by cases h; exact kq3) (inI (by omega) (by rw [nq19 (by decide)]; show _ < (60 : Int); omega)) dX4_add_76 (fun H locs hM => ?_)
            have hM : mH D H0 (qR Sa q19 x20.toNatClampNeg (some q3)) (kc + 1) (ns + 17) H locs := hM
            have hI := CI.putA (i := x20.toNatClampNeg) (o := (some q3)) hI kq19 (fun q h => by cases h; exact kq3)
            refine lv_aload_n hx hb dX4_add_77 rfl (lv_at hl 0 rfl) ?_
            refine lv_dup hx hb dX4_add_78 rfl ?_
            refine r_get (ci := 4) (k := 1) (v := .int (mI (qR Sa q19 x20.toNatClampNeg (some q3)) 401 h0)) C hM kh0 f_X4_17 rfl dX4_add_79 ?_
            refine lv_topi (fun x21 ex21 => ?_)
            have fx21 := NI.g401 hI.2 kh0 ex21
            have gx21 : x21 = x20 := ex21.trans (ex20.symm)
            have hx21 : x21.toInt = x20.toInt := by rw [gx21]
            refine lv_iconst (v := 1) hx hb dX4_add_82 (by decide) ?_
            refine lv_iadd hx hb dX4_add_83 ?_
            refine lv_topi (fun x22 ex22 => ?_)
            try (have tx22 := addI (a := x21) (b := 1) (by omega) (by omega); rw [← ex22] at tx22)
            refine r_put C hM kh0 f_X4_17 (fun r h => by cases h; rfl) rfl rfl (mPut.I (ci := 4) (k := 1) rfl) dX4_add_84 (fun H locs hM => ?_)
            have hM : mH D H0 (pI (qR Sa q19 x20.toNatClampNeg (some q3)) 401 h0 x22) (kc + 1) (ns + 17) H locs := hM
            have hI := CI.p401 (a := h0) (v := x22) hI ⟨by omega, by omega⟩
            have h84 : (mI (pI (qR Sa q19 x20.toNatClampNeg (some q3)) 401 h0 x22) 401 h0).toInt = (mI S 401 h0).toInt + 1 := by rw [show mI (pI (qR Sa q19 x20.toNatClampNeg (some q3)) 401 h0 x22) 401 h0 = x22 from up2_eq, ← h72]; omega
            have h85 : (mI (pI (qR Sa q19 x20.toNatClampNeg (some q3)) 401 h0 x22) 501 q3 ).toInt = (mI S 401 h0).toInt := congrArg Int32.toInt hE4
            refine lv_aload hx hb dX4_add_87 (lv_at hl 4 rfl) ?_
            refine W.widen (k := 1) (n := 17) (by first | decide | omega) (by first | decide | omega) ?_
            exact r_retR (v := (some q3)) C hr hlk hM (⟨hX, CI.ccLe hI (by omega), fun b hb => hE1 b hb, fun b hb => hE2 b hb, by omega, ⟨by omega, by omega⟩, fun z h => by cases h; exact ⟨kq3 , by omega⟩⟩) dX4_add_89
          | some q18 =>
            have kq18 : mK Sa q18 = 6 := ko q18 rfl
            refine lv_ifnull hx hb dX4_add_42 ?_
            refine lv_aload hx hb dX4_add_45 (lv_at hl 5 rfl) ?_
            refine lv_dup hx hb dX4_add_47 rfl ?_
            refine r_getN (ci := 5) (k := 9) (v := .int (mI Sa 509 q18)) C hM kq18 f_X4_28 rfl dX4_add_48 ?_
            refine lv_topi (fun x23 ex23 => ?_)
            have fx23 := NI.g509 hI.2 kq18 ex23
            refine lv_iconst (v := 1) hx hb dX4_add_51 (by decide) ?_
            refine lv_iadd hx hb dX4_add_52 ?_
            refine lv_topi (fun x24 ex24 => ?_)
            try (have tx24 := addI (a := x23) (b := 1) (by omega) (by omega); rw [← ex24] at tx24)
            refine r_putN C hM kq18 f_X4_28 (fun r h => by cases h; rfl) rfl rfl (mPut.I (ci := 5) (k := 9) rfl) dX4_add_53 (fun H locs hM => ?_)
            have hM : mH D H0 (pI Sa 509 q18 x24) (kc + 1) (ns + 17) H locs := hM
            have hI := CI.p509 (a := q18 ) (v := x24) (CI.ccLe hI (Nat.le_succ _)) ⟨by omega, by omega⟩
            refine lv_aload hx hb dX4_add_56 (lv_at hl 5 rfl) ?_
            refine r_getN (ci := 5) (k := 3) C hM kq18 f_X4_31 rfl dX4_add_58 ?_
            obtain ⟨r25, er25, kr25⟩ : ∃ r : Option Nat, mR (pI Sa 509 q18 x24) 503 q18 = r ∧ ∀ q, r = some q → mK (pI Sa 509 q18 x24) q = 6 := ⟨_, rfl, TI.opt hI.1 (ci := 5) (k := 3) kq18⟩
            refine W.eq (g2 := F0 m 61 ls [va_rf r25]) (by rw [← er25]; rfl) ?_
            refine lv_astoreQ (lv' := [(6, va_rf r25), (0, .ref h0), (1, .long j0), (3, va_rf o0), (4, .ref q9), (5, .ref q3)]) hx hb dX4_add_61 hl (by decide) rfl (fun ls hl => ?_)
            refine lv_goto (tgt := 40) hx hb dX4_add_63 (by decide) ?_
            have h96 := cm503 hI kq18; rw [er25] at h96
            have h97 : cm (pI Sa 509 q18 x24) (some q18) = cm Sa (some q18) := rfl
            have h98 := cm60 hI kq18
            have hI := CI.ccLe (c' := u + (61 - cm (pI Sa 509 q18 x24) r25 )) hI (by omega)
            have hE1 : ∀ b, mK S b = 6 → mI (pI Sa 509 q18 x24) 501 b = mI S 501 b := hE1
            have hE2 : ∀ b, mK S b = 7 → mR (pI Sa 509 q18 x24) 604 b = mR S 604 b ∧ mR (pI Sa 509 q18 x24) 605 b = mR S 605 b := hE2
            exact ih40 r25 (pI Sa 509 q18 x24) _ _ _ (hX) (hI) (hE1) (hE2) (hE3) (hE4) (kq3) (kh0) (kr25) (by omega) (lv_sub hl [1, 2, 3, 4, 5, 0] rfl) hM
      exact loop40 ((cm (pR S4 508 q9 (some q3)) o0) + 1) o0 (pR S4 508 q9 (some q3)) _ _ _ (hX) (hI) (hE1) (hE2) (hE3) (hE4) (kq3) (kh0) (ko0) (by omega) (lv_sub hl [2, 3, 4, 5, 1, 0] rfl) hM
  · have tc2 := ltF c2
    refine lv_null hx hb dX4_add_9 ?_
    refine W.widen (k := 1) (n := 17) (by first | decide | omega) (by first | decide | omega) ?_
    exact r_retR (v := none) C hr hlk hM (⟨mX.rf, CI.ccLe hI (by omega), fun _ _ => rfl, fun _ _ => ⟨rfl, rfl⟩, by omega, ⟨by omega, by omega⟩, fun q h => by cases h⟩) dX4_add_10
