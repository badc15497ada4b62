set_option maxHeartbeats 4000000 in
set_option maxRecDepth 100000 in
theorem c_X2_begin (l : Launch) (D : gD) (H0 : gB) (S : Mem) (kc ns : Nat) (h0 h1 h2 : Nat) {u : Nat} {tl : Int} {rho : Nat × Nat} (hI : CI x0 u tl rho S) (kh0 : mK S h0 = 3) (kh1 : mK S h1 = 5) (kh2 : mK S h2 = 5) : Met l yX2_begin (wsU yX2_begin cX2_begin 4 none) ({ frames := 0, cells := 0, slots := 0, locals := 0 } : Room) (mP D H0 S kc ns [.ref h0, .ref h1, .ref h2]) (mQ D H0 gV (fun r S1 k1 n1 => kc = k1 ∧ ns = n1 ∧ mK S1 = mK S ∧ CI x0 u tl rho S1 ∧ True)) 0 0 (mF H0) := by
  refine r_met (own := RX2) (by decide +kernel) rfl (Nat.le_of_ble_eq_true rfl) ?_
  intro p e s m args below meth c C hr hlk hnm H ls hl hM
  obtain ⟨hx, hb, hml, hown, hts, -, -⟩ := id C
  have hl : lv_has ls 4 [(0, .ref h0), (1, .ref h1), (2, .ref h2)] := hl
  have hI0 := hI
  have hK9 : mK S = mK S := rfl
  have t_0 : (0 : Int32).toInt = 0 := by decide
  have t_1 : (1 : Int32).toInt = 1 := by decide
  have t_60 : (60 : Int32).toInt = 60 := by decide
  refine lv_aload_n hx hb dX2_begin_0 rfl (lv_at hl 0 rfl) ?_
  refine lv_aload_n hx hb dX2_begin_1 rfl (lv_at hl 1 rfl) ?_
  refine r_put C hM kh0 f_X2_19 (fun r h => by cases h; rfl) rfl rfl (mPut.Rf (ci := 2) (k := 3) (x := (some h1)) rfl) dX2_begin_2 (fun H locs hM => ?_)
  have hM : mH D H0 (pR S 203 h0 (some h1)) kc ns H locs := hM
  have hI : CI x0 u tl rho (pR S 203 h0 (some h1)) := CI.putR (ci := 2) (k := 3) hI kh0 (fun z h => by cases h; exact ⟨kh1, fun h => absurd rfl h⟩) (Or.inl rfl) (by decide) (by decide) (by decide)
  refine lv_aload_n hx hb dX2_begin_5 rfl (lv_at hl 0 rfl) ?_
  refine lv_aload_n hx hb dX2_begin_6 rfl (lv_at hl 2 rfl) ?_
  refine r_put C hM kh0 f_X2_23 (fun r h => by cases h; rfl) rfl rfl (mPut.Rf (ci := 2) (k := 4) (x := (some h2)) rfl) dX2_begin_7 (fun H locs hM => ?_)
  have hM : mH D H0 (pR (pR S 203 h0 (some h1)) 204 h0 (some h2)) kc ns H locs := hM
  have hI : CI x0 u tl rho (pR (pR S 203 h0 (some h1)) 204 h0 (some h2)) := CI.putR (ci := 2) (k := 4) hI kh0 (fun z h => by cases h; exact ⟨kh2, fun h => absurd rfl h⟩) (Or.inl rfl) (by decide) (by decide) (by decide)
  refine lv_iconst (v := 0) hx hb dX2_begin_10 (by decide) ?_
  refine lv_istore_n (lv' := [(3, .int 0), (0, .ref h0), (1, .ref h1), (2, .ref h2)]) hx hb dX2_begin_11 rfl hl (by decide) rfl (fun ls hl => ?_)
  have loop12 : ∀ (fu : Nat) (j : Int32) (Sa : Mem) (H : Heap) (locs : List Loc) (ls : Array Slot), (mK Sa = mK S) → (CI x0 u tl rho Sa) → (0 ≤ j.toInt) → (60 - j.toInt).toNat < fu → lv_has ls 4 [(0, .ref h0), (1, .ref h1), (2, .ref h2), (3, .int j)] → mH D H0 Sa kc ns H locs → W p l e ({ frames := 0, cells := 0, slots := 0, locals := 0 } : Room) s m args below meth c H locs 0 0 (MQ below (mQ D H0 gV (fun r S1 k1 n1 => kc = k1 ∧ ns = n1 ∧ mK S1 = mK S ∧ CI x0 u tl rho S1 ∧ True)) args s 0 0 (mF H0)) (F0 m 12 ls []) := by
    intro fu
    induction fu with
    | zero => intro j Sa H locs ls h12_0 h12_1 h12_2 hfu; exact absurd hfu (by omega)
    | succ fu ih12 =>
      intro j Sa H locs ls h12_0 h12_1 h12_2 hfu hl hM
      have hK9 := h12_0
      have hI := h12_1
      have kh0 : mK Sa h0 = 3 := (congrFun (hK9) h0).trans kh0
      have kh1 : mK Sa h1 = 5 := (congrFun (hK9) h1).trans kh1
      have kh2 : mK Sa h2 = 5 := (congrFun (hK9) h2).trans kh2
      refine lv_iload_n hx hb dX2_begin_12 rfl (lv_at hl 3 rfl) ?_
      refine lv_bipush (v := 60) hx hb dX2_begin_13 (by decide) ?_
      refine lv_icmp_ge (tgt := 31) hx hb dX2_begin_15 (by decide) (fun cv1 => ?_) (fun cv1 => ?_)
      · have tcv1 := leT cv1
        exact r_retV C hr hlk hM (⟨rfl, rfl, hK9, hI, trivial⟩) dX2_begin_31
      · have tcv1 := leF cv1
        refine lv_aload_n hx hb dX2_begin_18 rfl (lv_at hl 0 rfl) ?_
        obtain ⟨qv2, eqv2, kqv2, nqv2⟩ := TI.nn hI.1 (ci := 2) (k := 2) kh0
        refine r_get (ci := 2) (k := 2) (v := .ref qv2) C hM kh0 f_X2_15 (congrArg va_rf eqv2) dX2_begin_19 ?_
        refine lv_iload_n hx hb dX2_begin_22 rfl (lv_at hl 3 rfl) ?_
        refine lv_iconst (v := 0) hx hb dX2_begin_23 (by decide) ?_
        refine r_zast C hM kqv2 (inI (by omega) (by rw [nqv2 (by decide)]; show _ < (60 : Int); omega)) dX2_begin_24 (fun H locs hM => ?_)
        have hM : mH D H0 (qI Sa qv2 j.toNatClampNeg (vp_nar .boolean 0)) kc ns H locs := hM
        have hI := hI.fe (fEq.AI (S := Sa) (a := qv2) (i := j.toNatClampNeg) (v := (vp_nar .boolean 0)))
        obtain ⟨xv3, exv3⟩ : ∃ y : Int32, y = j + 1 := ⟨_, rfl⟩
        try (have txv3 := addI (a := j) (b := 1) (by omega) (by omega); rw [← exv3] at txv3)
        refine lv_iinc (v := xv3) (lv' := [(3, .int xv3), (0, .ref h0), (1, .ref h1), (2, .ref h2)]) hx hb dX2_begin_25 hl (k := 3) rfl (by rw [exv3]; rfl) (by decide) rfl (fun ls hl => ?_)
        refine lv_goto (tgt := 12) hx hb dX2_begin_28 (by decide) ?_
        exact ih12 xv3 (qI Sa qv2 j.toNatClampNeg (vp_nar .boolean 0)) _ _ _ (hK9) (hI) (by omega) (by omega) (lv_sub hl [1, 2, 3, 0] rfl) hM
  exact loop12 (((60 - (0 : Int32).toInt).toNat) + 1) 0 (pR (pR S 203 h0 (some h1)) 204 h0 (some h2)) _ _ _ (hK9) (hI) (by omega) (by omega) (lv_sub hl [1, 2, 3, 0] rfl) hM
set_option maxHeartbeats 4000000 in
set_option maxRecDepth 100000 in
theorem c_X2_measureForests (l : Launch) (D : gD) (H0 : gB) (S : Mem) (kc ns : Nat) (h0 h1 h2 : Nat) {u : Nat} {tl : Int} {rho : Nat × Nat} (hI : CI x0 u tl rho S) (qf qt : Nat) (hu : u < 2000000000) (ef : mR S 203 h0 = some qf) (et : mR S 204 h0 = some qt) (kqf : mK S qf = 5) (kqt : mK S qt = 5) (kh0 : mK S h0 = 3) (kh1 : mK S h1 = 6) (kh2 : mK S h2 = 6) : Met l yX2_measureForests (wsU yX2_measureForests cX2_measureForests 14 none) ({ frames := 2, cells := 0, slots := 0, locals := 42 } : Room) (mP D H0 S kc ns [.ref h0, .ref h1, .ref h2]) (mQ D H0 gV (fun r S1 k1 n1 => kc = k1 ∧ ns = n1 ∧ fEq S S1 ∧ True)) 0 0 (mF H0) := by
  refine r_met (own := RX2) (by decide +kernel) rfl (Nat.le_of_ble_eq_true rfl) ?_
  intro p e s m args below meth c C hr hlk hnm H ls hl hM
  obtain ⟨hx, hb, hml, hown, hts, -, -⟩ := id C
  have hl : lv_has ls 14 [(0, .ref h0), (1, .ref h1), (2, .ref h2)] := hl
  have hI0 := hI
  have hF : fEq S S := fEq.rf
  have t_m1 : (-1 : Int32).toInt = -1 := by decide
  have t_0 : (0 : Int32).toInt = 0 := by decide
  have t_1 : (1 : Int32).toInt = 1 := by decide
  have t_3 : (3 : Int32).toInt = 3 := by decide
  have t_60 : (60 : Int32).toInt = 60 := by decide
  have t_61 : (61 : Int32).toInt = 61 := by decide
  refine lv_aload_n hx hb dX2_measureForests_0 rfl (lv_at hl 1 rfl) ?_
  refine r_getN (ci := 5) (k := 1) (v := .int (mI S 501 h1)) C hM kh1 f_X2_48 rfl dX2_measureForests_1 ?_
  refine lv_topi (fun xv1 exv1 => ?_)
  have fxv1 := NI.f501 hI.2 kh1
  rw [← exv1] at fxv1
  refine lv_aload_n hx hb dX2_measureForests_4 rfl (lv_at hl 1 rfl) ?_
  refine r_getN (ci := 5) (k := 9) (v := .int (mI S 509 h1)) C hM kh1 f_X2_52 rfl dX2_measureForests_5 ?_
  refine lv_topi (fun xv2 exv2 => ?_)
  have fxv2 := NI.f509 hI.2 kh1
  rw [← exv2] at fxv2
  refine lv_iadd hx hb dX2_measureForests_8 ?_
  refine lv_topi (fun xv3 exv3 => ?_)
  try (have txv3 := addI (a := xv1) (b := xv2) (by omega) (by omega); rw [← exv3] at txv3)
  refine lv_iconst (v := 1) hx hb dX2_measureForests_9 (by decide) ?_
  refine lv_iadd hx hb dX2_measureForests_10 ?_
  refine lv_topi (fun xv4 exv4 => ?_)
  try (have txv4 := addI (a := xv3) (b := 1) (by omega) (by omega); rw [← exv4] at txv4)
  refine lv_istore_n (lv' := [(3, .int xv4), (0, .ref h0), (1, .ref h1), (2, .ref h2)]) hx hb dX2_measureForests_11 rfl hl (by decide) rfl (fun ls hl => ?_)
  refine lv_aload_n hx hb dX2_measureForests_12 rfl (lv_at hl 3 rfl) ?_
  refine r_getN (ci := 5) (k := 1) (v := .int (mI S 501 h2)) C hM kh2 f_X2_48 rfl dX2_measureForests_13 ?_
  refine lv_topi (fun xv5 exv5 => ?_)
  have fxv5 := NI.f501 hI.2 kh2
  rw [← exv5] at fxv5
  refine lv_aload_n hx hb dX2_measureForests_16 rfl (lv_at hl 3 rfl) ?_
  refine r_getN (ci := 5) (k := 9) (v := .int (mI S 509 h2)) C hM kh2 f_X2_52 rfl dX2_measureForests_17 ?_
  refine lv_topi (fun xv6 exv6 => ?_)
  have fxv6 := NI.f509 hI.2 kh2
  rw [← exv6] at fxv6
  refine lv_iadd hx hb dX2_measureForests_20 ?_
  refine lv_topi (fun xv7 exv7 => ?_)
  try (have txv7 := addI (a := xv5) (b := xv6) (by omega) (by omega); rw [← exv7] at txv7)
  refine lv_iconst (v := 1) hx hb dX2_measureForests_21 (by decide) ?_
  refine lv_iadd hx hb dX2_measureForests_22 ?_
  refine lv_topi (fun xv8 exv8 => ?_)
  try (have txv8 := addI (a := xv7) (b := 1) (by omega) (by omega); rw [← exv8] at txv8)
  refine lv_istore (lv' := [(4, .int xv8), (3, .int xv4), (0, .ref h0), (1, .ref h1), (2, .ref h2)]) hx hb dX2_measureForests_23 hl (by decide) rfl (fun ls hl => ?_)
  refine lv_iload_n hx hb dX2_measureForests_25 rfl (lv_at hl 1 rfl) ?_
  refine lv_aload_n hx hb dX2_measureForests_26 rfl (lv_at hl 2 rfl) ?_
  refine r_get (ci := 2) (k := 3) (v := .ref qf) C hM kh0 f_X2_19 (congrArg va_rf (ef)) dX2_measureForests_27 ?_
  refine r_getN (ci := 4) (k := 1) (v := .int (mI S 401 qf)) C hM kqf f_X2_55 rfl dX2_measureForests_30 ?_
  refine lv_topi (fun xv9 exv9 => ?_)
  have fxv9 := NI.f401 hI.2 kqf
  rw [← exv9] at fxv9
  refine lv_icmp_gt (tgt := 48) hx hb dX2_measureForests_33 (by decide) (fun cv10 => ?_) (fun cv10 => ?_)
  · have tcv10 := ltT cv10
    exact r_retV C hr hlk hM (⟨rfl, rfl, hF, trivial⟩) dX2_measureForests_48
  · have tcv10 := ltF cv10
    refine lv_iload hx hb dX2_measureForests_36 (lv_at hl 0 rfl) ?_
    refine lv_aload_n hx hb dX2_measureForests_38 rfl (lv_at hl 2 rfl) ?_
    refine r_get (ci := 2) (k := 4) (v := .ref qt) C hM kh0 f_X2_23 (congrArg va_rf (et)) dX2_measureForests_39 ?_
    refine r_getN (ci := 4) (k := 1) (v := .int (mI S 401 qt)) C hM kqt f_X2_55 rfl dX2_measureForests_42 ?_
    refine lv_topi (fun xv11 exv11 => ?_)
    have fxv11 := NI.f401 hI.2 kqt
    rw [← exv11] at fxv11
    refine lv_icmp_le (tgt := 49) hx hb dX2_measureForests_45 (by decide) (fun cv12 => ?_) (fun cv12 => ?_)
    · have tcv12 := leT cv12
      refine lv_aload_n hx hb dX2_measureForests_49 rfl (lv_at hl 2 rfl) ?_
      obtain ⟨qv13, eqv13, kqv13, nqv13⟩ := TI.nn hI.1 (ci := 2) (k := 0) kh0
      refine r_get (ci := 2) (k := 0) (v := .ref qv13) C hM kh0 f_X2_26 (congrArg va_rf eqv13) dX2_measureForests_50 ?_
      refine lv_iload_n hx hb dX2_measureForests_53 rfl (lv_at hl 1 rfl) ?_
      refine lv_bipush (v := 61) hx hb dX2_measureForests_54 (by decide) ?_
      refine lv_imul hx hb dX2_measureForests_56 ?_
      refine lv_topi (fun xv14 exv14 => ?_)
      try (have txv14 := mulC (a := xv4) (k := 61) (n := 61) (by decide) (by omega) (by omega); rw [← exv14] at txv14)
      refine lv_iload hx hb dX2_measureForests_57 (lv_at hl 0 rfl) ?_
      refine lv_iadd hx hb dX2_measureForests_59 ?_
      refine lv_topi (fun xv15 exv15 => ?_)
      try (have txv15 := addI (a := xv14) (b := xv8) (by omega) (by omega); rw [← exv15] at txv15)
      refine lv_iconst (v := 0) hx hb dX2_measureForests_60 (by decide) ?_
      refine r_iast C hM kqv13 (inI (by omega) (by rw [nqv13 (by decide)]; show _ < (3721 : Int); omega)) dX2_measureForests_61 (fun H locs hM => ?_)
      have hM : mH D H0 (qI S qv13 xv15.toNatClampNeg 0) kc ns H locs := hM
      have hI := hI.fe (fEq.AI (S := S) (a := qv13) (i := xv15.toNatClampNeg) (v := 0))
      have hF := hF.trans (fEq.AI (S := S) (a := qv13) (i := xv15.toNatClampNeg) (v := 0))
      refine lv_iload hx hb dX2_measureForests_62 (lv_at hl 0 rfl) ?_
      refine lv_iconst (v := 1) hx hb dX2_measureForests_64 (by decide) ?_
      refine lv_isub hx hb dX2_measureForests_65 ?_
      refine lv_topi (fun xv16 exv16 => ?_)
      try (have txv16 := subI (a := xv8) (b := 1) (by omega) (by omega); rw [← exv16] at txv16)
      refine lv_istore (lv' := [(5, .int xv16), (4, .int xv8), (3, .int xv4), (0, .ref h0), (1, .ref h1), (2, .ref h2)]) hx hb dX2_measureForests_66 hl (by decide) rfl (fun ls hl => ?_)
      have hFa68 := hF
      have loop68 : ∀ (fu : Nat) (j : Int32) (Sa : Mem) (H : Heap) (locs : List Loc) (ls : Array Slot), (fEq S Sa) → (-1 ≤ j.toInt ∧ j.toInt < xv8.toInt) → (j.toInt + 1).toNat < fu → lv_has ls 14 [(0, .ref h0), (1, .ref h1), (2, .ref h2), (3, .int xv4), (4, .int xv8), (5, .int j)] → mH D H0 Sa kc ns H locs → W p l e ({ frames := 2, cells := 0, slots := 0, locals := 42 } : Room) s m args below meth c H locs 0 0 (MQ below (mQ D H0 gV (fun r S1 k1 n1 => kc = k1 ∧ ns = n1 ∧ fEq S S1 ∧ True)) args s 0 0 (mF H0)) (F0 m 68 ls []) := by
        intro fu
        induction fu with
        | zero => intro j Sa H locs ls h68_0 h68_1 hfu; exact absurd hfu (by omega)
        | succ fu ih68 =>
          intro j Sa H locs ls h68_0 h68_1 hfu hl hM
          have hF := h68_0
          have hI := hI0.fe hF
          have kh0 : mK Sa h0 = 3 := (congrFun (hF.1.trans hFa68.1.symm) h0).trans kh0
          have kh1 : mK Sa h1 = 6 := (congrFun (hF.1.trans hFa68.1.symm) h1).trans kh1
          have kh2 : mK Sa h2 = 6 := (congrFun (hF.1.trans hFa68.1.symm) h2).trans kh2
          have kqf : mK Sa qf = 5 := (congrFun (hF.1.trans hFa68.1.symm) qf).trans kqf
          have kqt : mK Sa qt = 5 := (congrFun (hF.1.trans hFa68.1.symm) qt).trans kqt
          have vv17 : mR Sa 203 h0 = some qf := ((congrFun (congrFun hF.2.1 203) h0).trans (congrFun (congrFun hFa68.2.1 203) h0).symm).trans (ef)
          have vv18 : mR Sa 204 h0 = some qt := ((congrFun (congrFun hF.2.1 204) h0).trans (congrFun (congrFun hFa68.2.1 204) h0).symm).trans (et)
          refine lv_iload hx hb dX2_measureForests_68 (lv_at hl 5 rfl) ?_
          refine lv_aload_n hx hb dX2_measureForests_70 rfl (lv_at hl 2 rfl) ?_
          refine r_getN (ci := 5) (k := 1) (v := .int (mI Sa 501 h2)) C hM kh2 f_X2_48 rfl dX2_measureForests_71 ?_
          refine lv_topi (fun xv19 exv19 => ?_)
          have fxv19 := NI.f501 hI.2 kh2
          rw [← exv19] at fxv19
          refine lv_icmp_lt (tgt := 102) hx hb dX2_measureForests_74 (by decide) (fun cv20 => ?_) (fun cv20 => ?_)
          · have tcv20 := ltT cv20
            refine lv_iload_n hx hb dX2_measureForests_102 rfl (lv_at hl 3 rfl) ?_
            refine lv_iconst (v := 1) hx hb dX2_measureForests_103 (by decide) ?_
            refine lv_isub hx hb dX2_measureForests_104 ?_
            refine lv_topi (fun xv21 exv21 => ?_)
            try (have txv21 := subI (a := xv4) (b := 1) (by omega) (by omega); rw [← exv21] at txv21)
            refine lv_istore (lv' := [(5, .int xv21), (0, .ref h0), (1, .ref h1), (2, .ref h2), (3, .int xv4), (4, .int xv8)]) hx hb dX2_measureForests_105 hl (by decide) rfl (fun ls hl => ?_)
            have hFa107 := hF
            have loop107 : ∀ (fu : Nat) (i : Int32) (Sb : Mem) (H : Heap) (locs : List Loc) (ls : Array Slot), (fEq S Sb) → (-1 ≤ i.toInt ∧ i.toInt < xv4.toInt) → (i.toInt + 1).toNat < fu → lv_has ls 14 [(0, .ref h0), (1, .ref h1), (2, .ref h2), (3, .int xv4), (4, .int xv8), (5, .int i)] → mH D H0 Sb kc ns H locs → W p l e ({ frames := 2, cells := 0, slots := 0, locals := 42 } : Room) s m args below meth c H locs 0 0 (MQ below (mQ D H0 gV (fun r S1 k1 n1 => kc = k1 ∧ ns = n1 ∧ fEq S S1 ∧ True)) args s 0 0 (mF H0)) (F0 m 107 ls []) := by
              intro fu
              induction fu with
              | zero => intro i Sb H locs ls h107_0 h107_1 hfu; exact absurd hfu (by omega)
              | succ fu ih107 =>
                intro i Sb H locs ls h107_0 h107_1 hfu hl hM
                have hF := h107_0
                have hI := hI0.fe hF
                have kh0 : mK Sb h0 = 3 := (congrFun (hF.1.trans hFa107.1.symm) h0).trans kh0
                have kh1 : mK Sb h1 = 6 := (congrFun (hF.1.trans hFa107.1.symm) h1).trans kh1
                have kh2 : mK Sb h2 = 6 := (congrFun (hF.1.trans hFa107.1.symm) h2).trans kh2
                have kqf : mK Sb qf = 5 := (congrFun (hF.1.trans hFa107.1.symm) qf).trans kqf
                have kqt : mK Sb qt = 5 := (congrFun (hF.1.trans hFa107.1.symm) qt).trans kqt
                have vv22 : mR Sb 203 h0 = some qf := ((congrFun (congrFun hF.2.1 203) h0).trans (congrFun (congrFun hFa107.2.1 203) h0).symm).trans (vv17)
                have vv23 : mR Sb 204 h0 = some qt := ((congrFun (congrFun hF.2.1 204) h0).trans (congrFun (congrFun hFa107.2.1 204) h0).symm).trans (vv18)
                refine lv_iload hx hb dX2_measureForests_107 (lv_at hl 5 rfl) ?_
                refine lv_aload_n hx hb dX2_measureForests_109 rfl (lv_at hl 1 rfl) ?_
                refine r_getN (ci := 5) (k := 1) (v := .int (mI Sb 501 h1)) C hM kh1 f_X2_48 rfl dX2_measureForests_110 ?_
                refine lv_topi (fun xv24 exv24 => ?_)
                have fxv24 := NI.f501 hI.2 kh1
                rw [← exv24] at fxv24
                refine lv_icmp_lt (tgt := 386) hx hb dX2_measureForests_113 (by decide) (fun cv25 => ?_) (fun cv25 => ?_)
                · have tcv25 := ltT cv25
                  exact r_retV C hr hlk hM (⟨rfl, rfl, hF, trivial⟩) dX2_measureForests_386
                · have tcv25 := ltF cv25
                  refine lv_aload_n hx hb dX2_measureForests_116 rfl (lv_at hl 0 rfl) ?_
                  obtain ⟨qv26, eqv26, kqv26, nqv26⟩ := TI.nn hI.1 (ci := 2) (k := 0) kh0
                  refine r_get (ci := 2) (k := 0) (v := .ref qv26) C hM kh0 f_X2_26 (congrArg va_rf eqv26) dX2_measureForests_117 ?_
                  refine lv_iload hx hb dX2_measureForests_120 (lv_at hl 5 rfl) ?_
                  refine lv_bipush (v := 61) hx hb dX2_measureForests_122 (by decide) ?_
                  refine lv_imul hx hb dX2_measureForests_124 ?_
                  refine lv_topi (fun xv27 exv27 => ?_)
                  try (have txv27 := mulC (a := i) (k := 61) (n := 61) (by decide) (by omega) (by omega); rw [← exv27] at txv27)
                  refine lv_iload hx hb dX2_measureForests_125 (lv_at hl 4 rfl) ?_
                  refine lv_iadd hx hb dX2_measureForests_127 ?_
                  refine lv_topi (fun xv28 exv28 => ?_)
                  try (have txv28 := addI (a := xv27) (b := xv8) (by omega) (by omega); rw [← exv28] at txv28)
                  refine lv_iload_n hx hb dX2_measureForests_128 rfl (lv_at hl 3 rfl) ?_
                  refine lv_iload hx hb dX2_measureForests_129 (lv_at hl 5 rfl) ?_
                  refine lv_isub hx hb dX2_measureForests_131 ?_
                  refine lv_topi (fun xv29 exv29 => ?_)
                  try (have txv29 := subI (a := xv4) (b := i) (by omega) (by omega); rw [← exv29] at txv29)
                  refine lv_iconst (v := 3) hx hb dX2_measureForests_132 (by decide) ?_
                  refine lv_imul hx hb dX2_measureForests_133 ?_
                  refine lv_topi (fun xv30 exv30 => ?_)
                  try (have txv30 := mulC (a := xv29) (k := 3) (n := 3) (by decide) (by omega) (by omega); rw [← exv30] at txv30)
                  refine r_iast C hM kqv26 (inI (by omega) (by rw [nqv26 (by decide)]; show _ < (3721 : Int); omega)) dX2_measureForests_134 (fun H locs hM => ?_)
                  have hM : mH D H0 (qI Sb qv26 xv28.toNatClampNeg xv30) kc ns H locs := hM
                  have hI := hI.fe (fEq.AI (S := Sb) (a := qv26) (i := xv28.toNatClampNeg) (v := xv30))
                  have hF := hF.trans (fEq.AI (S := Sb) (a := qv26) (i := xv28.toNatClampNeg) (v := xv30))
                  refine lv_aload_n hx hb dX2_measureForests_135 rfl (lv_at hl 0 rfl) ?_
                  refine r_get (ci := 2) (k := 3) (v := .ref qf) C hM kh0 f_X2_19 (congrArg va_rf (vv22)) dX2_measureForests_136 ?_
                  refine lv_iload hx hb dX2_measureForests_139 (lv_at hl 5 rfl) ?_
                  refine r_VN (As := [.int i]) (rest := []) (ci := 4) C hM (c_X4_at l D H0 (qI Sb qv26 xv28.toNatClampNeg xv30) kc ns qf i hI id kqf) i_X4_at m_X2_60 kqf rfl rfl rfl hl.1 rfl (Nat.le_of_ble_eq_true rfl) ⟨by decide, by decide⟩ ⟨by decide, by decide⟩ dX2_measureForests_141 (fun rv34 Sv31 kv32 nv33 H locs pv35 hM => ?_)
                  obtain ⟨rfl, rfl, rfl, krv34⟩ := pv35
                  refine W.eq (g2 := F0 m 144 ls [va_rf rv34]) rfl ?_
                  refine lv_astoreQ (lv' := [(6, va_rf rv34), (0, .ref h0), (1, .ref h1), (2, .ref h2), (3, .int xv4), (4, .int xv8), (5, .int i)]) hx hb dX2_measureForests_144 hl (by decide) rfl (fun ls hl => ?_)
                  refine lv_aloadQ hx hb dX2_measureForests_146 (lv_at hl 0 rfl) ?_
                  cases rv34 with
                  | none =>
                    refine lv_ifnullN (tgt := 163) hx hb dX2_measureForests_148 (by decide) ?_
                    exact r_retV C hr hlk hM (⟨rfl, rfl, hF, trivial⟩) dX2_measureForests_163
                  | some qv36 =>
                    have kqv36 : mK _ qv36 = 6 := krv34 qv36 rfl
                    refine lv_ifnull hx hb dX2_measureForests_148 ?_
                    refine lv_iload hx hb dX2_measureForests_151 (lv_at hl 6 rfl) ?_
                    refine lv_aload hx hb dX2_measureForests_153 (lv_at hl 0 rfl) ?_
                    refine r_getN (ci := 5) (k := 9) (v := .int (mI (qI Sb qv26 xv28.toNatClampNeg xv30) 509 qv36)) C hM kqv36 f_X2_52 rfl dX2_measureForests_155 ?_
                    refine lv_topi (fun xv37 exv37 => ?_)
                    have fxv37 := NI.f509 hI.2 kqv36
                    rw [← exv37] at fxv37
                    refine lv_iadd hx hb dX2_measureForests_158 ?_
                    refine lv_topi (fun xv38 exv38 => ?_)
                    try (have txv38 := addI (a := i) (b := xv37) (by omega) (by omega); rw [← exv38] at txv38)
                    refine lv_iload_n hx hb dX2_measureForests_159 rfl (lv_at hl 4 rfl) ?_
                    refine lv_icmp_lt (tgt := 164) hx hb dX2_measureForests_160 (by decide) (fun cv39 => ?_) (fun cv39 => ?_)
                    · have tcv39 := ltT cv39
                      refine lv_iload hx hb dX2_measureForests_164 (lv_at hl 6 rfl) ?_
                      refine lv_aload hx hb dX2_measureForests_166 (lv_at hl 0 rfl) ?_
                      refine r_getN (ci := 5) (k := 9) (v := .int (mI (qI Sb qv26 xv28.toNatClampNeg xv30) 509 qv36)) C hM kqv36 f_X2_52 rfl dX2_measureForests_168 ?_
                      refine lv_topi (fun xv40 exv40 => ?_)
                      have fxv40 := NI.f509 hI.2 kqv36
                      rw [← exv40] at fxv40
                      have gxv40 : xv40 = xv37 := exv40.trans (exv37.symm)
                      have hxv40 : xv40.toInt = xv37.toInt := by rw [gxv40]
                      refine lv_iadd hx hb dX2_measureForests_171 ?_
                      refine lv_topi (fun xv41 exv41 => ?_)
                      try (have txv41 := addI (a := i) (b := xv40) (by omega) (by omega); rw [← exv41] at txv41)
                      refine lv_iconst (v := 1) hx hb dX2_measureForests_172 (by decide) ?_
                      refine lv_iadd hx hb dX2_measureForests_173 ?_
                      refine lv_topi (fun xv42 exv42 => ?_)
                      try (have txv42 := addI (a := xv41) (b := 1) (by omega) (by omega); rw [← exv42] at txv42)
                      refine lv_istore (lv' := [(7, .int xv42), (6, .ref qv36), (0, .ref h0), (1, .ref h1), (2, .ref h2), (3, .int xv4), (4, .int xv8), (5, .int i)]) hx hb dX2_measureForests_174 hl (by decide) rfl (fun ls hl => ?_)
                      refine lv_iload hx hb dX2_measureForests_176 (lv_at hl 6 rfl) ?_
                      refine lv_iconst (v := 1) hx hb dX2_measureForests_178 (by decide) ?_
                      refine lv_isub hx hb dX2_measureForests_179 ?_
                      refine lv_topi (fun xv43 exv43 => ?_)
                      try (have txv43 := subI (a := xv8) (b := 1) (by omega) (by omega); rw [← exv43] at txv43)
                      refine lv_istore (lv' := [(8, .int xv43), (7, .int xv42), (6, .ref qv36), (0, .ref h0), (1, .ref h1), (2, .ref h2), (3, .int xv4), (4, .int xv8), (5, .int i)]) hx hb dX2_measureForests_180 hl (by decide) rfl (fun ls hl => ?_)
                      have hFa182 := hF
                      have loop182 : ∀ (fu : Nat) (j8 : Int32) (Sc : Mem) (H : Heap) (locs : List Loc) (ls : Array Slot), (fEq S Sc) → (-1 ≤ j8.toInt ∧ j8.toInt < xv8.toInt) → (j8.toInt + 1).toNat < fu → lv_has ls 14 [(0, .ref h0), (1, .ref h1), (2, .ref h2), (3, .int xv4), (4, .int xv8), (5, .int i), (6, .ref qv36), (7, .int xv42), (8, .int j8)] → mH D H0 Sc kc ns H locs → W p l e ({ frames := 2, cells := 0, slots := 0, locals := 42 } : Room) s m args below meth c H locs 0 0 (MQ below (mQ D H0 gV (fun r S1 k1 n1 => kc = k1 ∧ ns = n1 ∧ fEq S S1 ∧ True)) args s 0 0 (mF H0)) (F0 m 182 ls []) := by
                        intro fu
                        induction fu with
                        | zero => intro j8 Sc H locs ls h182_0 h182_1 hfu; exact absurd hfu (by omega)
                        | succ fu ih182 =>
                          intro j8 Sc H locs ls h182_0 h182_1 hfu hl hM
                          have hF := h182_0
                          have hI := hI0.fe hF
                          have kh0 : mK Sc h0 = 3 := (congrFun (hF.1.trans hFa182.1.symm) h0).trans kh0
                          have kh1 : mK Sc h1 = 6 := (congrFun (hF.1.trans hFa182.1.symm) h1).trans kh1
                          have kh2 : mK Sc h2 = 6 := (congrFun (hF.1.trans hFa182.1.symm) h2).trans kh2
                          have kqv36 : mK Sc qv36 = 6 := (congrFun (hF.1.trans hFa182.1.symm) qv36).trans kqv36
                          have kqf : mK Sc qf = 5 := (congrFun (hF.1.trans hFa182.1.symm) qf).trans kqf
                          have kqt : mK Sc qt = 5 := (congrFun (hF.1.trans hFa182.1.symm) qt).trans kqt
                          have vv44 : mR Sc 203 h0 = some qf := ((congrFun (congrFun hF.2.1 203) h0).trans (congrFun (congrFun hFa182.2.1 203) h0).symm).trans (vv22)
                          have vv45 : mR Sc 204 h0 = some qt := ((congrFun (congrFun hF.2.1 204) h0).trans (congrFun (congrFun hFa182.2.1 204) h0).symm).trans (vv23)
                          refine lv_iload hx hb dX2_measureForests_182 (lv_at hl 8 rfl) ?_
                          refine lv_aload_n hx hb dX2_measureForests_184 rfl (lv_at hl 2 rfl) ?_
                          refine r_getN (ci := 5) (k := 1) (v := .int (mI Sc 501 h2)) C hM kh2 f_X2_48 rfl dX2_measureForests_185 ?_
                          refine lv_topi (fun xv46 exv46 => ?_)
                          have fxv46 := NI.f501 hI.2 kh2
                          rw [← exv46] at fxv46
                          refine lv_icmp_lt (tgt := 380) hx hb dX2_measureForests_188 (by decide) (fun cv47 => ?_) (fun cv47 => ?_)
                          · have tcv47 := ltT cv47
                            obtain ⟨xv48, exv48⟩ : ∃ y : Int32, y = i + (-1) := ⟨_, rfl⟩
                            try (have txv48 := addI (a := i) (b := (-1)) (by omega) (by omega); rw [← exv48] at txv48)
                            refine lv_iinc (v := xv48) (lv' := [(5, .int xv48), (0, .ref h0), (1, .ref h1), (2, .ref h2), (3, .int xv4), (4, .int xv8), (6, .ref qv36), (7, .int xv42), (8, .int j8)]) hx hb dX2_measureForests_380 hl (k := 5) rfl (by rw [exv48]; rfl) (by decide) rfl (fun ls hl => ?_)
                            refine lv_goto (tgt := 107) hx hb dX2_measureForests_383 (by decide) ?_
                            exact ih107 xv48 Sc _ _ _ (hF) (by omega) (by omega) (lv_sub hl [1, 2, 3, 4, 5, 0] rfl) hM
                          · have tcv47 := ltF cv47
                            refine lv_aload_n hx hb dX2_measureForests_191 rfl (lv_at hl 0 rfl) ?_
                            refine r_get (ci := 2) (k := 4) (v := .ref qt) C hM kh0 f_X2_23 (congrArg va_rf (vv45)) dX2_measureForests_192 ?_
                            refine lv_iload hx hb dX2_measureForests_195 (lv_at hl 8 rfl) ?_
                            refine r_VN (As := [.int j8]) (rest := []) (ci := 4) C hM (c_X4_at l D H0 Sc kc ns qt j8 hI id kqt) i_X4_at m_X2_60 kqt rfl rfl rfl hl.1 rfl (Nat.le_of_ble_eq_true rfl) ⟨by decide, by decide⟩ ⟨by decide, by decide⟩ dX2_measureForests_197 (fun rv52 Sv49 kv50 nv51 H locs pv53 hM => ?_)
                            obtain ⟨rfl, rfl, rfl, krv52⟩ := pv53
                            refine W.eq (g2 := F0 m 200 ls [va_rf rv52]) rfl ?_
                            refine lv_astoreQ (lv' := [(9, va_rf rv52), (0, .ref h0), (1, .ref h1), (2, .ref h2), (3, .int xv4), (4, .int xv8), (5, .int i), (6, .ref qv36), (7, .int xv42), (8, .int j8)]) hx hb dX2_measureForests_200 hl (by decide) rfl (fun ls hl => ?_)
                            refine lv_aloadQ hx hb dX2_measureForests_202 (lv_at hl 0 rfl) ?_
                            cases rv52 with
                            | none =>
                              refine lv_ifnullN (tgt := 220) hx hb dX2_measureForests_204 (by decide) ?_
                              exact r_retV C hr hlk hM (⟨rfl, rfl, hF, trivial⟩) dX2_measureForests_220
                            | some qv54 =>
                              have kqv54 : mK Sc qv54 = 6 := krv52 qv54 rfl
                              refine lv_ifnull hx hb dX2_measureForests_204 ?_
                              refine lv_iload hx hb dX2_measureForests_207 (lv_at hl 9 rfl) ?_
                              refine lv_aload hx hb dX2_measureForests_209 (lv_at hl 0 rfl) ?_
                              refine r_getN (ci := 5) (k := 9) (v := .int (mI Sc 509 qv54)) C hM kqv54 f_X2_52 rfl dX2_measureForests_211 ?_
                              refine lv_topi (fun xv55 exv55 => ?_)
                              have fxv55 := NI.f509 hI.2 kqv54
                              rw [← exv55] at fxv55
                              refine lv_iadd hx hb dX2_measureForests_214 ?_
                              refine lv_topi (fun xv56 exv56 => ?_)
                              try (have txv56 := addI (a := j8) (b := xv55) (by omega) (by omega); rw [← exv56] at txv56)
                              refine lv_iload hx hb dX2_measureForests_215 (lv_at hl 5 rfl) ?_
                              refine lv_icmp_lt (tgt := 221) hx hb dX2_measureForests_217 (by decide) (fun cv57 => ?_) (fun cv57 => ?_)
                              · have tcv57 := ltT cv57
                                refine lv_iload hx hb dX2_measureForests_221 (lv_at hl 9 rfl) ?_
                                refine lv_aload hx hb dX2_measureForests_223 (lv_at hl 0 rfl) ?_
                                refine r_getN (ci := 5) (k := 9) (v := .int (mI Sc 509 qv54)) C hM kqv54 f_X2_52 rfl dX2_measureForests_225 ?_
                                refine lv_topi (fun xv58 exv58 => ?_)
                                have fxv58 := NI.f509 hI.2 kqv54
                                rw [← exv58] at fxv58
                                have gxv58 : xv58 = xv55 := exv58.trans (exv55.symm)
                                have hxv58 : xv58.toInt = xv55.toInt := by rw [gxv58]
                                refine lv_iadd hx hb dX2_measureForests_228 ?_
                                refine lv_topi (fun xv59 exv59 => ?_)
                                try (have txv59 := addI (a := j8) (b := xv58) (by omega) (by omega); rw [← exv59] at txv59)
                                refine lv_iconst (v := 1) hx hb dX2_measureForests_229 (by decide) ?_
                                refine lv_iadd hx hb dX2_measureForests_230 ?_
                                refine lv_topi (fun xv60 exv60 => ?_)
                                try (have txv60 := addI (a := xv59) (b := 1) (by omega) (by omega); rw [← exv60] at txv60)
                                refine lv_istore (lv' := [(10, .int xv60), (9, .ref qv54), (0, .ref h0), (1, .ref h1), (2, .ref h2), (3, .int xv4), (4, .int xv8), (5, .int i), (6, .ref qv36), (7, .int xv42), (8, .int j8)]) hx hb dX2_measureForests_231 hl (by decide) rfl (fun ls hl => ?_)
                                refine lv_iload hx hb dX2_measureForests_233 (lv_at hl 7 rfl) ?_
                                refine lv_bipush (v := 61) hx hb dX2_measureForests_235 (by decide) ?_
                                refine lv_imul hx hb dX2_measureForests_237 ?_
                                refine lv_topi (fun xv61 exv61 => ?_)
                                try (have txv61 := mulC (a := i) (k := 61) (n := 61) (by decide) (by omega) (by omega); rw [← exv61] at txv61)
                                refine lv_iload hx hb dX2_measureForests_238 (lv_at hl 10 rfl) ?_
                                refine lv_iadd hx hb dX2_measureForests_240 ?_
                                refine lv_topi (fun xv62 exv62 => ?_)
                                try (have txv62 := addI (a := xv61) (b := j8) (by omega) (by omega); rw [← exv62] at txv62)
                                refine lv_istore (lv' := [(11, .int xv62), (10, .int xv60), (9, .ref qv54), (0, .ref h0), (1, .ref h1), (2, .ref h2), (3, .int xv4), (4, .int xv8), (5, .int i), (6, .ref qv36), (7, .int xv42), (8, .int j8)]) hx hb dX2_measureForests_241 hl (by decide) rfl (fun ls hl => ?_)
                                refine lv_aload_n hx hb dX2_measureForests_243 rfl (lv_at hl 3 rfl) ?_
                                obtain ⟨qv63, eqv63, kqv63, nqv63⟩ := TI.nn hI.1 (ci := 2) (k := 0) kh0
                                refine r_get (ci := 2) (k := 0) (v := .ref qv63) C hM kh0 f_X2_26 (congrArg va_rf eqv63) dX2_measureForests_244 ?_
                                refine lv_iload hx hb dX2_measureForests_247 (lv_at hl 0 rfl) ?_
                                refine lv_bipush (v := 61) hx hb dX2_measureForests_249 (by decide) ?_
                                refine lv_iadd hx hb dX2_measureForests_251 ?_
                                refine lv_topi (fun xv64 exv64 => ?_)
                                try (have txv64 := addI (a := xv62) (b := 61) (by omega) (by omega); rw [← exv64] at txv64)
                                refine r_iald C hM kqv63 (inI (by omega) (by rw [nqv63 (by decide)]; show _ < (3721 : Int); omega)) dX2_measureForests_252 ?_
                                refine lv_topi (fun xv65 exv65 => ?_)
                                refine lv_aload_n hx hb dX2_measureForests_253 rfl (lv_at hl 3 rfl) ?_
                                refine r_get (ci := 2) (k := 0) (v := .ref qv63) C hM kh0 f_X2_26 (congrArg va_rf (eqv63)) dX2_measureForests_254 ?_
                                refine lv_iload hx hb dX2_measureForests_257 (lv_at hl 0 rfl) ?_
                                refine lv_iconst (v := 1) hx hb dX2_measureForests_259 (by decide) ?_
                                refine lv_iadd hx hb dX2_measureForests_260 ?_
                                refine lv_topi (fun xv66 exv66 => ?_)
                                try (have txv66 := addI (a := xv62) (b := 1) (by omega) (by omega); rw [← exv66] at txv66)
                                refine r_iald C hM kqv63 (inI (by omega) (by rw [nqv63 (by decide)]; show _ < (3721 : Int); omega)) dX2_measureForests_261 ?_
                                refine lv_topi (fun xv67 exv67 => ?_)
                                refine va_mmin hx hb (hml.trans hl.1.symm) hown (hts _ m_X2_72) (hts _ i_J9_min_7cf53.2) (hts _ i_J9_min_7cf53.1.2.1) (hts _ i_J9_min_7cf53.1.1) (Nat.le_of_ble_eq_true rfl) (Nat.le_of_ble_eq_true rfl) (by decide) (by decide) dX2_measureForests_262 ?_
                                refine lv_topi (fun xv68 exv68 => ?_)
                                refine lv_iconst (v := 3) hx hb dX2_measureForests_265 (by decide) ?_
                                refine lv_iadd hx hb dX2_measureForests_266 ?_
                                refine lv_topi (fun xv69 exv69 => ?_)
                                try (have txv69 := addI (a := xv68) (b := 3) (by omega) (by omega); rw [← exv69] at txv69)
                                refine lv_istore (lv' := [(12, .int xv69), (11, .int xv62), (10, .int xv60), (9, .ref qv54), (0, .ref h0), (1, .ref h1), (2, .ref h2), (3, .int xv4), (4, .int xv8), (5, .int i), (6, .ref qv36), (7, .int xv42), (8, .int j8)]) hx hb dX2_measureForests_267 hl (by decide) rfl (fun ls hl => ?_)
                                refine lv_iload hx hb dX2_measureForests_269 (lv_at hl 11 rfl) ?_
                                refine lv_iload_n hx hb dX2_measureForests_271 rfl (lv_at hl 7 rfl) ?_
                                refine lv_icmp_ne (tgt := 327) hx hb dX2_measureForests_272 (by decide) (fun cv70 => ?_) (fun cv70 => ?_)
                                · have tcv70 := eqF cv70
                                  refine lv_aload_n hx hb dX2_measureForests_327 rfl (lv_at hl 4 rfl) ?_
                                  refine r_get (ci := 2) (k := 0) (v := .ref qv63) C hM kh0 f_X2_26 (congrArg va_rf (eqv63)) dX2_measureForests_328 ?_
                                  refine lv_iload hx hb dX2_measureForests_331 (lv_at hl 11 rfl) ?_
                                  refine lv_bipush (v := 61) hx hb dX2_measureForests_333 (by decide) ?_
                                  refine lv_imul hx hb dX2_measureForests_335 ?_
                                  refine lv_topi (fun xv71 exv71 => ?_)
                                  try (have txv71 := mulC (a := xv42) (k := 61) (n := 61) (by decide) (by omega) (by omega); rw [← exv71] at txv71)
                                  refine lv_iload hx hb dX2_measureForests_336 (lv_at hl 2 rfl) ?_
                                  refine lv_iadd hx hb dX2_measureForests_338 ?_
                                  refine lv_topi (fun xv72 exv72 => ?_)
                                  try (have txv72 := addI (a := xv71) (b := xv60) (by omega) (by omega); rw [← exv72] at txv72)
                                  refine r_iald C hM kqv63 (inI (by omega) (by rw [nqv63 (by decide)]; show _ < (3721 : Int); omega)) dX2_measureForests_339 ?_
                                  refine lv_topi (fun xv73 exv73 => ?_)
                                  refine lv_aload_n hx hb dX2_measureForests_340 rfl (lv_at hl 4 rfl) ?_
                                  obtain ⟨qv74, eqv74, kqv74, nqv74⟩ := TI.nn hI.1 (ci := 2) (k := 1) kh0
                                  refine r_get (ci := 2) (k := 1) (v := .ref qv74) C hM kh0 f_X2_9 (congrArg va_rf eqv74) dX2_measureForests_341 ?_
                                  refine lv_iload hx hb dX2_measureForests_344 (lv_at hl 9 rfl) ?_
                                  refine lv_bipush (v := 60) hx hb dX2_measureForests_346 (by decide) ?_
                                  refine lv_imul hx hb dX2_measureForests_348 ?_
                                  refine lv_topi (fun xv75 exv75 => ?_)
                                  try (have txv75 := mulC (a := i) (k := 60) (n := 60) (by decide) (by omega) (by omega); rw [← exv75] at txv75)
                                  refine lv_iload hx hb dX2_measureForests_349 (lv_at hl 12 rfl) ?_
                                  refine lv_iadd hx hb dX2_measureForests_351 ?_
                                  refine lv_topi (fun xv76 exv76 => ?_)
                                  try (have txv76 := addI (a := xv75) (b := j8) (by omega) (by omega); rw [← exv76] at txv76)
                                  refine r_iald C hM kqv74 (inI (by omega) (by rw [nqv74 (by decide)]; show _ < (3600 : Int); omega)) dX2_measureForests_352 ?_
                                  refine lv_topi (fun xv77 exv77 => ?_)
                                  refine lv_iadd hx hb dX2_measureForests_353 ?_
                                  refine lv_topi (fun xv78 exv78 => ?_)
                                  try (have txv78 := addI (a := xv73) (b := xv77) (by omega) (by omega); rw [← exv78] at txv78)
                                  refine lv_istore (lv' := [(13, .int xv78), (12, .int xv69), (11, .int xv62), (10, .int xv60), (9, .ref qv54), (0, .ref h0), (1, .ref h1), (2, .ref h2), (3, .int xv4), (4, .int xv8), (5, .int i), (6, .ref qv36), (7, .int xv42), (8, .int j8)]) hx hb dX2_measureForests_354 hl (by decide) rfl (fun ls hl => ?_)
                                  refine lv_iload hx hb dX2_measureForests_356 (lv_at hl 1 rfl) ?_
                                  refine lv_iload hx hb dX2_measureForests_358 (lv_at hl 0 rfl) ?_
                                  refine va_mmin hx hb (hml.trans hl.1.symm) hown (hts _ m_X2_72) (hts _ i_J9_min_7cf53.2) (hts _ i_J9_min_7cf53.1.2.1) (hts _ i_J9_min_7cf53.1.1) (Nat.le_of_ble_eq_true rfl) (Nat.le_of_ble_eq_true rfl) (by decide) (by decide) dX2_measureForests_360 ?_
                                  refine lv_topi (fun xv79 exv79 => ?_)
                                  refine lv_istore (lv' := [(12, .int xv79), (13, .int xv78), (11, .int xv62), (10, .int xv60), (9, .ref qv54), (0, .ref h0), (1, .ref h1), (2, .ref h2), (3, .int xv4), (4, .int xv8), (5, .int i), (6, .ref qv36), (7, .int xv42), (8, .int j8)]) hx hb dX2_measureForests_363 hl (by decide) rfl (fun ls hl => ?_)
                                  refine lv_aload_n hx hb dX2_measureForests_365 rfl (lv_at hl 5 rfl) ?_
                                  refine r_get (ci := 2) (k := 0) (v := .ref qv63) C hM kh0 f_X2_26 (congrArg va_rf (eqv63)) dX2_measureForests_366 ?_
                                  refine lv_iload hx hb dX2_measureForests_369 (lv_at hl 2 rfl) ?_
                                  refine lv_iload hx hb dX2_measureForests_371 (lv_at hl 0 rfl) ?_
                                  refine r_iast C hM kqv63 (inI (by omega) (by rw [nqv63 (by decide)]; show _ < (3721 : Int); omega)) dX2_measureForests_373 (fun H locs hM => ?_)
                                  have hM : mH D H0 (qI Sc qv63 xv62.toNatClampNeg xv79) kc ns H locs := hM
                                  have hI := hI.fe (fEq.AI (S := Sc) (a := qv63) (i := xv62.toNatClampNeg) (v := xv79))
                                  have hF := hF.trans (fEq.AI (S := Sc) (a := qv63) (i := xv62.toNatClampNeg) (v := xv79))
                                  obtain ⟨xv80, exv80⟩ : ∃ y : Int32, y = j8 + (-1) := ⟨_, rfl⟩
                                  try (have txv80 := addI (a := j8) (b := (-1)) (by omega) (by omega); rw [← exv80] at txv80)
                                  refine lv_iinc (v := xv80) (lv' := [(8, .int xv80), (12, .int xv79), (13, .int xv78), (11, .int xv62), (10, .int xv60), (9, .ref qv54), (0, .ref h0), (1, .ref h1), (2, .ref h2), (3, .int xv4), (4, .int xv8), (5, .int i), (6, .ref qv36), (7, .int xv42)]) hx hb dX2_measureForests_374 hl (k := 13) rfl (by rw [exv80]; rfl) (by decide) rfl (fun ls hl => ?_)
                                  refine lv_goto (tgt := 182) hx hb dX2_measureForests_377 (by decide) ?_
                                  exact ih182 xv80 (qI Sc qv63 xv62.toNatClampNeg xv79) _ _ _ (hF) (by omega) (by omega) (lv_sub hl [6, 7, 8, 9, 10, 11, 12, 13, 0] rfl) hM
                                · have tcv70 := eqT cv70
                                  refine lv_iload hx hb dX2_measureForests_275 (lv_at hl 2 rfl) ?_
                                  refine lv_iload hx hb dX2_measureForests_277 (lv_at hl 8 rfl) ?_
                                  refine lv_icmp_ne (tgt := 327) hx hb dX2_measureForests_279 (by decide) (fun cv81 => ?_) (fun cv81 => ?_)
                                  · have tcv81 := eqF cv81
                                    refine lv_aload_n hx hb dX2_measureForests_327 rfl (lv_at hl 4 rfl) ?_
                                    refine r_get (ci := 2) (k := 0) (v := .ref qv63) C hM kh0 f_X2_26 (congrArg va_rf (eqv63)) dX2_measureForests_328 ?_
                                    refine lv_iload hx hb dX2_measureForests_331 (lv_at hl 11 rfl) ?_
                                    refine lv_bipush (v := 61) hx hb dX2_measureForests_333 (by decide) ?_
                                    refine lv_imul hx hb dX2_measureForests_335 ?_
                                    refine lv_topi (fun xv82 exv82 => ?_)
                                    try (have txv82 := mulC (a := xv42) (k := 61) (n := 61) (by decide) (by omega) (by omega); rw [← exv82] at txv82)
                                    refine lv_iload hx hb dX2_measureForests_336 (lv_at hl 2 rfl) ?_
                                    refine lv_iadd hx hb dX2_measureForests_338 ?_
                                    refine lv_topi (fun xv83 exv83 => ?_)
                                    try (have txv83 := addI (a := xv82) (b := xv60) (by omega) (by omega); rw [← exv83] at txv83)
                                    refine r_iald C hM kqv63 (inI (by omega) (by rw [nqv63 (by decide)]; show _ < (3721 : Int); omega)) dX2_measureForests_339 ?_
                                    refine lv_topi (fun xv84 exv84 => ?_)
                                    refine lv_aload_n hx hb dX2_measureForests_340 rfl (lv_at hl 4 rfl) ?_
                                    obtain ⟨qv85, eqv85, kqv85, nqv85⟩ := TI.nn hI.1 (ci := 2) (k := 1) kh0
                                    refine r_get (ci := 2) (k := 1) (v := .ref qv85) C hM kh0 f_X2_9 (congrArg va_rf eqv85) dX2_measureForests_341 ?_
                                    refine lv_iload hx hb dX2_measureForests_344 (lv_at hl 9 rfl) ?_
                                    refine lv_bipush (v := 60) hx hb dX2_measureForests_346 (by decide) ?_
                                    refine lv_imul hx hb dX2_measureForests_348 ?_
                                    refine lv_topi (fun xv86 exv86 => ?_)
                                    try (have txv86 := mulC (a := i) (k := 60) (n := 60) (by decide) (by omega) (by omega); rw [← exv86] at txv86)
                                    refine lv_iload hx hb dX2_measureForests_349 (lv_at hl 12 rfl) ?_
                                    refine lv_iadd hx hb dX2_measureForests_351 ?_
                                    refine lv_topi (fun xv87 exv87 => ?_)
                                    try (have txv87 := addI (a := xv86) (b := j8) (by omega) (by omega); rw [← exv87] at txv87)
                                    refine r_iald C hM kqv85 (inI (by omega) (by rw [nqv85 (by decide)]; show _ < (3600 : Int); omega)) dX2_measureForests_352 ?_
                                    refine lv_topi (fun xv88 exv88 => ?_)
                                    refine lv_iadd hx hb dX2_measureForests_353 ?_
                                    refine lv_topi (fun xv89 exv89 => ?_)
                                    try (have txv89 := addI (a := xv84) (b := xv88) (by omega) (by omega); rw [← exv89] at txv89)
                                    refine lv_istore (lv' := [(13, .int xv89), (12, .int xv69), (11, .int xv62), (10, .int xv60), (9, .ref qv54), (0, .ref h0), (1, .ref h1), (2, .ref h2), (3, .int xv4), (4, .int xv8), (5, .int i), (6, .ref qv36), (7, .int xv42), (8, .int j8)]) hx hb dX2_measureForests_354 hl (by decide) rfl (fun ls hl => ?_)
                                    refine lv_iload hx hb dX2_measureForests_356 (lv_at hl 1 rfl) ?_
                                    refine lv_iload hx hb dX2_measureForests_358 (lv_at hl 0 rfl) ?_
                                    refine va_mmin hx hb (hml.trans hl.1.symm) hown (hts _ m_X2_72) (hts _ i_J9_min_7cf53.2) (hts _ i_J9_min_7cf53.1.2.1) (hts _ i_J9_min_7cf53.1.1) (Nat.le_of_ble_eq_true rfl) (Nat.le_of_ble_eq_true rfl) (by decide) (by decide) dX2_measureForests_360 ?_
                                    refine lv_topi (fun xv90 exv90 => ?_)
                                    refine lv_istore (lv' := [(12, .int xv90), (13, .int xv89), (11, .int xv62), (10, .int xv60), (9, .ref qv54), (0, .ref h0), (1, .ref h1), (2, .ref h2), (3, .int xv4), (4, .int xv8), (5, .int i), (6, .ref qv36), (7, .int xv42), (8, .int j8)]) hx hb dX2_measureForests_363 hl (by decide) rfl (fun ls hl => ?_)
                                    refine lv_aload_n hx hb dX2_measureForests_365 rfl (lv_at hl 5 rfl) ?_
                                    refine r_get (ci := 2) (k := 0) (v := .ref qv63) C hM kh0 f_X2_26 (congrArg va_rf (eqv63)) dX2_measureForests_366 ?_
                                    refine lv_iload hx hb dX2_measureForests_369 (lv_at hl 2 rfl) ?_
                                    refine lv_iload hx hb dX2_measureForests_371 (lv_at hl 0 rfl) ?_
                                    refine r_iast C hM kqv63 (inI (by omega) (by rw [nqv63 (by decide)]; show _ < (3721 : Int); omega)) dX2_measureForests_373 (fun H locs hM => ?_)
                                    have hM : mH D H0 (qI Sc qv63 xv62.toNatClampNeg xv90) kc ns H locs := hM
                                    have hI := hI.fe (fEq.AI (S := Sc) (a := qv63) (i := xv62.toNatClampNeg) (v := xv90))
                                    have hF := hF.trans (fEq.AI (S := Sc) (a := qv63) (i := xv62.toNatClampNeg) (v := xv90))
                                    obtain ⟨xv91, exv91⟩ : ∃ y : Int32, y = j8 + (-1) := ⟨_, rfl⟩
                                    try (have txv91 := addI (a := j8) (b := (-1)) (by omega) (by omega); rw [← exv91] at txv91)
                                    refine lv_iinc (v := xv91) (lv' := [(8, .int xv91), (12, .int xv90), (13, .int xv89), (11, .int xv62), (10, .int xv60), (9, .ref qv54), (0, .ref h0), (1, .ref h1), (2, .ref h2), (3, .int xv4), (4, .int xv8), (5, .int i), (6, .ref qv36), (7, .int xv42)]) hx hb dX2_measureForests_374 hl (k := 13) rfl (by rw [exv91]; rfl) (by decide) rfl (fun ls hl => ?_)
                                    refine lv_goto (tgt := 182) hx hb dX2_measureForests_377 (by decide) ?_
                                    exact ih182 xv91 (qI Sc qv63 xv62.toNatClampNeg xv90) _ _ _ (hF) (by omega) (by omega) (lv_sub hl [6, 7, 8, 9, 10, 11, 12, 13, 0] rfl) hM
                                  · have tcv81 := eqT cv81
                                    refine lv_iload hx hb dX2_measureForests_282 (lv_at hl 0 rfl) ?_
                                    refine lv_aload_n hx hb dX2_measureForests_284 rfl (lv_at hl 4 rfl) ?_
                                    refine r_get (ci := 2) (k := 0) (v := .ref qv63) C hM kh0 f_X2_26 (congrArg va_rf (eqv63)) dX2_measureForests_285 ?_
                                    refine lv_iload hx hb dX2_measureForests_288 (lv_at hl 1 rfl) ?_
                                    refine lv_bipush (v := 61) hx hb dX2_measureForests_290 (by decide) ?_
                                    refine lv_iadd hx hb dX2_measureForests_292 ?_
                                    refine lv_topi (fun xv92 exv92 => ?_)
                                    try (have txv92 := addI (a := xv62) (b := 61) (by omega) (by omega); rw [← exv92] at txv92)
                                    refine lv_iconst (v := 1) hx hb dX2_measureForests_293 (by decide) ?_
                                    refine lv_iadd hx hb dX2_measureForests_294 ?_
                                    refine lv_topi (fun xv93 exv93 => ?_)
                                    try (have txv93 := addI (a := xv92) (b := 1) (by omega) (by omega); rw [← exv93] at txv93)
                                    refine r_iald C hM kqv63 (inI (by omega) (by rw [nqv63 (by decide)]; show _ < (3721 : Int); omega)) dX2_measureForests_295 ?_
                                    refine lv_topi (fun xv94 exv94 => ?_)
                                    refine lv_aload hx hb dX2_measureForests_296 (lv_at hl 10 rfl) ?_
                                    refine lv_aload hx hb dX2_measureForests_298 (lv_at hl 3 rfl) ?_
                                    refine r_S (As := [.ref qv36, .ref qv54]) (rest := [.int xv94, .int xv69]) C hM (c_X2_change l D H0 Sc kc ns qv36 qv54 hI kqv36 kqv54) i_X2_change m_X2_78 rfl hl.1 rfl (Nat.le_of_ble_eq_true rfl) ⟨by decide, by decide⟩ ⟨by decide, by decide⟩ dX2_measureForests_300 (fun xv98 Sv95 kv96 nv97 H locs pv99 hM => ?_)
                                    obtain ⟨rfl, rfl, rfl, hxv98⟩ := pv99
                                    refine W.eq (g2 := F0 m 303 ls [.int xv98, .int xv94, .int xv69]) rfl ?_
                                    refine lv_iadd hx hb dX2_measureForests_303 ?_
                                    refine lv_topi (fun xv100 exv100 => ?_)
                                    try (have txv100 := addI (a := xv94) (b := xv98) (by omega) (by omega); rw [← exv100] at txv100)
                                    refine va_mmin hx hb (hml.trans hl.1.symm) hown (hts _ m_X2_72) (hts _ i_J9_min_7cf53.2) (hts _ i_J9_min_7cf53.1.2.1) (hts _ i_J9_min_7cf53.1.1) (Nat.le_of_ble_eq_true rfl) (Nat.le_of_ble_eq_true rfl) (by decide) (by decide) dX2_measureForests_304 ?_
                                    refine lv_topi (fun xv101 exv101 => ?_)
                                    refine lv_istore (lv' := [(12, .int xv101), (11, .int xv62), (10, .int xv60), (9, .ref qv54), (0, .ref h0), (1, .ref h1), (2, .ref h2), (3, .int xv4), (4, .int xv8), (5, .int i), (6, .ref qv36), (7, .int xv42), (8, .int j8)]) hx hb dX2_measureForests_307 hl (by decide) rfl (fun ls hl => ?_)
                                    refine lv_aload_n hx hb dX2_measureForests_309 rfl (lv_at hl 4 rfl) ?_
                                    obtain ⟨qv102, eqv102, kqv102, nqv102⟩ := TI.nn hI.1 (ci := 2) (k := 1) kh0
                                    refine r_get (ci := 2) (k := 1) (v := .ref qv102) C hM kh0 f_X2_9 (congrArg va_rf eqv102) dX2_measureForests_310 ?_
                                    refine lv_iload hx hb dX2_measureForests_313 (lv_at hl 9 rfl) ?_
                                    refine lv_bipush (v := 60) hx hb dX2_measureForests_315 (by decide) ?_
                                    refine lv_imul hx hb dX2_measureForests_317 ?_
                                    refine lv_topi (fun xv103 exv103 => ?_)
                                    try (have txv103 := mulC (a := i) (k := 60) (n := 60) (by decide) (by omega) (by omega); rw [← exv103] at txv103)
                                    refine lv_iload hx hb dX2_measureForests_318 (lv_at hl 12 rfl) ?_
                                    refine lv_iadd hx hb dX2_measureForests_320 ?_
                                    refine lv_topi (fun xv104 exv104 => ?_)
                                    try (have txv104 := addI (a := xv103) (b := j8) (by omega) (by omega); rw [← exv104] at txv104)
                                    refine lv_iload hx hb dX2_measureForests_321 (lv_at hl 0 rfl) ?_
                                    refine r_iast C hM kqv102 (inI (by omega) (by rw [nqv102 (by decide)]; show _ < (3600 : Int); omega)) dX2_measureForests_323 (fun H locs hM => ?_)
                                    have hM : mH D H0 (qI Sc qv102 xv104.toNatClampNeg xv101) kc ns H locs := hM
                                    have hI := hI.fe (fEq.AI (S := Sc) (a := qv102) (i := xv104.toNatClampNeg) (v := xv101))
                                    have hF := hF.trans (fEq.AI (S := Sc) (a := qv102) (i := xv104.toNatClampNeg) (v := xv101))
                                    refine lv_goto (tgt := 365) hx hb dX2_measureForests_324 (by decide) ?_
                                    refine lv_aload_n hx hb dX2_measureForests_365 rfl (lv_at hl 4 rfl) ?_
                                    refine r_get (ci := 2) (k := 0) (v := .ref qv63) C hM kh0 f_X2_26 (congrArg va_rf (eqv63)) dX2_measureForests_366 ?_
                                    refine lv_iload hx hb dX2_measureForests_369 (lv_at hl 1 rfl) ?_
                                    refine lv_iload hx hb dX2_measureForests_371 (lv_at hl 0 rfl) ?_
                                    refine r_iast C hM kqv63 (inI (by omega) (by rw [nqv63 (by decide)]; show _ < (3721 : Int); omega)) dX2_measureForests_373 (fun H locs hM => ?_)
                                    have hM : mH D H0 (qI (qI Sc qv102 xv104.toNatClampNeg xv101) qv63 xv62.toNatClampNeg xv101) kc ns H locs := hM
                                    have hI := hI.fe (fEq.AI (S := (qI Sc qv102 xv104.toNatClampNeg xv101)) (a := qv63) (i := xv62.toNatClampNeg) (v := xv101))
                                    have hF := hF.trans (fEq.AI (S := (qI Sc qv102 xv104.toNatClampNeg xv101)) (a := qv63) (i := xv62.toNatClampNeg) (v := xv101))
                                    obtain ⟨xv105, exv105⟩ : ∃ y : Int32, y = j8 + (-1) := ⟨_, rfl⟩
                                    try (have txv105 := addI (a := j8) (b := (-1)) (by omega) (by omega); rw [← exv105] at txv105)
                                    refine lv_iinc (v := xv105) (lv' := [(8, .int xv105), (12, .int xv101), (11, .int xv62), (10, .int xv60), (9, .ref qv54), (0, .ref h0), (1, .ref h1), (2, .ref h2), (3, .int xv4), (4, .int xv8), (5, .int i), (6, .ref qv36), (7, .int xv42)]) hx hb dX2_measureForests_374 hl (k := 12) rfl (by rw [exv105]; rfl) (by decide) rfl (fun ls hl => ?_)
                                    refine lv_goto (tgt := 182) hx hb dX2_measureForests_377 (by decide) ?_
                                    exact ih182 xv105 (qI (qI Sc qv102 xv104.toNatClampNeg xv101) qv63 xv62.toNatClampNeg xv101) _ _ _ (hF) (by omega) (by omega) (lv_sub hl [5, 6, 7, 8, 9, 10, 11, 12, 0] rfl) hM
                              · have tcv57 := ltF cv57
                                exact r_retV C hr hlk hM (⟨rfl, rfl, hF, trivial⟩) dX2_measureForests_220
                      exact loop182 (((xv43.toInt + 1).toNat) + 1) xv43 (qI Sb qv26 xv28.toNatClampNeg xv30) _ _ _ (hF) (by omega) (by omega) (lv_sub hl [3, 4, 5, 6, 7, 8, 2, 1, 0] rfl) hM
                    · have tcv39 := ltF cv39
                      exact r_retV C hr hlk hM (⟨rfl, rfl, hF, trivial⟩) dX2_measureForests_163
            exact loop107 (((xv21.toInt + 1).toNat) + 1) xv21 Sa _ _ _ (hF) (by omega) (by omega) (lv_sub hl [1, 2, 3, 4, 5, 0] rfl) hM
          · have tcv20 := ltF cv20
            refine lv_aload_n hx hb dX2_measureForests_77 rfl (lv_at hl 0 rfl) ?_
            obtain ⟨qv106, eqv106, kqv106, nqv106⟩ := TI.nn hI.1 (ci := 2) (k := 0) kh0
            refine r_get (ci := 2) (k := 0) (v := .ref qv106) C hM kh0 f_X2_26 (congrArg va_rf eqv106) dX2_measureForests_78 ?_
            refine lv_iload_n hx hb dX2_measureForests_81 rfl (lv_at hl 3 rfl) ?_
            refine lv_bipush (v := 61) hx hb dX2_measureForests_82 (by decide) ?_
            refine lv_imul hx hb dX2_measureForests_84 ?_
            refine lv_topi (fun xv107 exv107 => ?_)
            try (have txv107 := mulC (a := xv4) (k := 61) (n := 61) (by decide) (by omega) (by omega); rw [← exv107] at txv107)
            refine lv_iload hx hb dX2_measureForests_85 (lv_at hl 5 rfl) ?_
            refine lv_iadd hx hb dX2_measureForests_87 ?_
            refine lv_topi (fun xv108 exv108 => ?_)
            try (have txv108 := addI (a := xv107) (b := j) (by omega) (by omega); rw [← exv108] at txv108)
            refine lv_iload hx hb dX2_measureForests_88 (lv_at hl 4 rfl) ?_
            refine lv_iload hx hb dX2_measureForests_90 (lv_at hl 5 rfl) ?_
            refine lv_isub hx hb dX2_measureForests_92 ?_
            refine lv_topi (fun xv109 exv109 => ?_)
            try (have txv109 := subI (a := xv8) (b := j) (by omega) (by omega); rw [← exv109] at txv109)
            refine lv_iconst (v := 3) hx hb dX2_measureForests_93 (by decide) ?_
            refine lv_imul hx hb dX2_measureForests_94 ?_
            refine lv_topi (fun xv110 exv110 => ?_)
            try (have txv110 := mulC (a := xv109) (k := 3) (n := 3) (by decide) (by omega) (by omega); rw [← exv110] at txv110)
            refine r_iast C hM kqv106 (inI (by omega) (by rw [nqv106 (by decide)]; show _ < (3721 : Int); omega)) dX2_measureForests_95 (fun H locs hM => ?_)
            have hM : mH D H0 (qI Sa qv106 xv108.toNatClampNeg xv110) kc ns H locs := hM
            have hI := hI.fe (fEq.AI (S := Sa) (a := qv106) (i := xv108.toNatClampNeg) (v := xv110))
            have hF := hF.trans (fEq.AI (S := Sa) (a := qv106) (i := xv108.toNatClampNeg) (v := xv110))
            obtain ⟨xv111, exv111⟩ : ∃ y : Int32, y = j + (-1) := ⟨_, rfl⟩
            try (have txv111 := addI (a := j) (b := (-1)) (by omega) (by omega); rw [← exv111] at txv111)
            refine lv_iinc (v := xv111) (lv' := [(5, .int xv111), (0, .ref h0), (1, .ref h1), (2, .ref h2), (3, .int xv4), (4, .int xv8)]) hx hb dX2_measureForests_96 hl (k := 5) rfl (by rw [exv111]; rfl) (by decide) rfl (fun ls hl => ?_)
            refine lv_goto (tgt := 68) hx hb dX2_measureForests_99 (by decide) ?_
            exact ih68 xv111 (qI Sa qv106 xv108.toNatClampNeg xv110) _ _ _ (hF) (by omega) (by omega) (lv_sub hl [1, 2, 3, 4, 5, 0] rfl) hM
      exact loop68 (((xv16.toInt + 1).toNat) + 1) xv16 (qI S qv13 xv15.toNatClampNeg 0) _ _ _ (hF) (by omega) (by omega) (lv_sub hl [3, 4, 5, 2, 1, 0] rfl) hM
    · have tcv12 := leF cv12
      exact r_retV C hr hlk hM (⟨rfl, rfl, hF, trivial⟩) dX2_measureForests_48
set_option maxHeartbeats 4000000 in
set_option maxRecDepth 100000 in
theorem c_X2_measureKey (l : Launch) (D : gD) (H0 : gB) (S : Mem) (kc ns : Nat) (h0 h1 : Nat) {u : Nat} {tl : Int} {rho : Nat × Nat} (hI : CI x0 u tl rho S) (qf qt : Nat) (hu : u < 2000000000) (ef : mR S 203 h0 = some qf) (et : mR S 204 h0 = some qt) (kqf : mK S qf = 5) (kqt : mK S qt = 5) (kh0 : mK S h0 = 3) (kh1 : mK S h1 = 6) : Met l yX2_measureKey (wsU yX2_measureKey cX2_measureKey 4 none) ({ frames := 3, cells := 0, slots := 0, locals := 75 } : Room) (mP D H0 S kc ns [.ref h0, .ref h1]) (mQ D H0 gV (fun r S1 k1 n1 => kc = k1 ∧ ns = n1 ∧ fEq S S1 ∧ True)) 0 0 (mF H0) := by
  refine r_met (own := RX2) (by decide +kernel) rfl (Nat.le_of_ble_eq_true rfl) ?_
  intro p e s m args below meth c C hr hlk hnm H ls hl hM
  obtain ⟨hx, hb, hml, hown, hts, -, -⟩ := id C
  have hl : lv_has ls 4 [(0, .ref h0), (1, .ref h1)] := hl
  have hI0 := hI
  have hF : fEq S S := fEq.rf
  have t_m1 : (-1 : Int32).toInt = -1 := by decide
  have t_0 : (0 : Int32).toInt = 0 := by decide
  have t_1 : (1 : Int32).toInt = 1 := by decide
  refine lv_aload_n hx hb dX2_measureKey_0 rfl (lv_at hl 0 rfl) ?_
  refine r_get (ci := 2) (k := 4) (v := .ref qt) C hM kh0 f_X2_23 (congrArg va_rf (et)) dX2_measureKey_1 ?_
  refine r_getN (ci := 4) (k := 1) (v := .int (mI S 401 qt)) C hM kqt f_X2_55 rfl dX2_measureKey_4 ?_
  refine lv_topi (fun xv1 exv1 => ?_)
  have fxv1 := NI.f401 hI.2 kqt
  rw [← exv1] at fxv1
  refine lv_iconst (v := 1) hx hb dX2_measureKey_7 (by decide) ?_
  refine lv_isub hx hb dX2_measureKey_8 ?_
  refine lv_topi (fun xv2 exv2 => ?_)
  try (have txv2 := subI (a := xv1) (b := 1) (by omega) (by omega); rw [← exv2] at txv2)
  refine lv_istore_n (lv' := [(2, .int xv2), (0, .ref h0), (1, .ref h1)]) hx hb dX2_measureKey_9 rfl hl (by decide) rfl (fun ls hl => ?_)
  have hFa10 := hF
  have loop10 : ∀ (fu : Nat) (j : Int32) (Sa : Mem) (H : Heap) (locs : List Loc) (ls : Array Slot), (fEq S Sa) → (-1 ≤ j.toInt ∧ j.toInt < 60) → (j.toInt + 1).toNat < fu → lv_has ls 4 [(0, .ref h0), (1, .ref h1), (2, .int j)] → mH D H0 Sa kc ns H locs → W p l e ({ frames := 3, cells := 0, slots := 0, locals := 75 } : Room) s m args below meth c H locs 0 0 (MQ below (mQ D H0 gV (fun r S1 k1 n1 => kc = k1 ∧ ns = n1 ∧ fEq S S1 ∧ True)) args s 0 0 (mF H0)) (F0 m 10 ls []) := by
    intro fu
    induction fu with
    | zero => intro j Sa H locs ls h10_0 h10_1 hfu; exact absurd hfu (by omega)
    | succ fu ih10 =>
      intro j Sa H locs ls h10_0 h10_1 hfu hl hM
      have hF := h10_0
      have hI := hI0.fe hF
      have kh0 : mK Sa h0 = 3 := (congrFun (hF.1.trans hFa10.1.symm) h0).trans kh0
      have kh1 : mK Sa h1 = 6 := (congrFun (hF.1.trans hFa10.1.symm) h1).trans kh1
      have kqf : mK Sa qf = 5 := (congrFun (hF.1.trans hFa10.1.symm) qf).trans kqf
      have kqt : mK Sa qt = 5 := (congrFun (hF.1.trans hFa10.1.symm) qt).trans kqt
      have vv3 : mR Sa 203 h0 = some qf := ((congrFun (congrFun hF.2.1 203) h0).trans (congrFun (congrFun hFa10.2.1 203) h0).symm).trans (ef)
      have vv4 : mR Sa 204 h0 = some qt := ((congrFun (congrFun hF.2.1 204) h0).trans (congrFun (congrFun hFa10.2.1 204) h0).symm).trans (et)
      refine lv_iload_n hx hb dX2_measureKey_10 rfl (lv_at hl 2 rfl) ?_
      refine lv_if_lt (tgt := 50) hx hb dX2_measureKey_11 (by decide) (fun cv5 => ?_) (fun cv5 => ?_)
      · have tcv5 := ltT cv5
        exact r_retV C hr hlk hM (⟨rfl, rfl, hF, trivial⟩) dX2_measureKey_50
      · have tcv5 := ltF cv5
        refine lv_aload_n hx hb dX2_measureKey_14 rfl (lv_at hl 0 rfl) ?_
        refine r_get (ci := 2) (k := 4) (v := .ref qt) C hM kh0 f_X2_23 (congrArg va_rf (vv4)) dX2_measureKey_15 ?_
        refine lv_iload_n hx hb dX2_measureKey_18 rfl (lv_at hl 2 rfl) ?_
        refine r_VN (As := [.int j]) (rest := []) (ci := 4) C hM (c_X4_at l D H0 Sa kc ns qt j hI id kqt) i_X4_at m_X2_60 kqt rfl rfl rfl hl.1 rfl (Nat.le_of_ble_eq_true rfl) ⟨by decide, by decide⟩ ⟨by decide, by decide⟩ dX2_measureKey_19 (fun rv9 Sv6 kv7 nv8 H locs pv10 hM => ?_)
        obtain ⟨rfl, rfl, rfl, krv9⟩ := pv10
        refine W.eq (g2 := F0 m 22 ls [va_rf rv9]) rfl ?_
        refine lv_astore_nQ (lv' := [(3, va_rf rv9), (0, .ref h0), (1, .ref h1), (2, .int j)]) hx hb dX2_measureKey_22 rfl hl (by decide) rfl (fun ls hl => ?_)
        refine lv_aload_nQ hx hb dX2_measureKey_23 rfl (lv_at hl 0 rfl) ?_
        cases rv9 with
        | none =>
          refine lv_ifnullN (tgt := 44) hx hb dX2_measureKey_24 (by decide) ?_
          obtain ⟨xv12, exv12⟩ : ∃ y : Int32, y = j + (-1) := ⟨_, rfl⟩
          try (have txv12 := addI (a := j) (b := (-1)) (by omega) (by omega); rw [← exv12] at txv12)
          refine lv_iinc (v := xv12) (lv' := [(2, .int xv12), (3, .null), (0, .ref h0), (1, .ref h1)]) hx hb dX2_measureKey_44 hl (k := 3) rfl (by rw [exv12]; rfl) (by decide) rfl (fun ls hl => ?_)
          refine lv_goto (tgt := 10) hx hb dX2_measureKey_47 (by decide) ?_
          exact ih10 xv12 Sa _ _ _ (hF) (by omega) (by omega) (lv_sub hl [2, 3, 0] rfl) hM
        | some qv11 =>
          have kqv11 : mK Sa qv11 = 6 := krv9 qv11 rfl
          refine lv_ifnull hx hb dX2_measureKey_24 ?_
          refine lv_aload_n hx hb dX2_measureKey_27 rfl (lv_at hl 0 rfl) ?_
          refine r_getN (ci := 5) (k := 8) C hM kqv11 f_X2_45 rfl dX2_measureKey_28 ?_
          obtain ⟨rv13, erv13, krv13⟩ : ∃ r : Option Nat, mR Sa 508 qv11 = r ∧ ∀ q, r = some q → mK Sa q = 6 := ⟨_, rfl, TI.opt hI.1 (ci := 5) (k := 8) kqv11⟩
          refine W.eq (g2 := F0 m 31 ls [va_rf rv13]) (by rw [← erv13]; rfl) ?_
          cases rv13 with
          | none =>
            refine lv_ifnonnullN hx hb dX2_measureKey_31 ?_
            refine lv_iload_n hx hb dX2_measureKey_34 rfl (lv_at hl 3 rfl) ?_
            refine lv_if_ne (tgt := 44) hx hb dX2_measureKey_35 (by decide) (fun cv15 => ?_) (fun cv15 => ?_)
            · have tcv15 := eqF cv15
              obtain ⟨xv16, exv16⟩ : ∃ y : Int32, y = j + (-1) := ⟨_, rfl⟩
              try (have txv16 := addI (a := j) (b := (-1)) (by omega) (by omega); rw [← exv16] at txv16)
              refine lv_iinc (v := xv16) (lv' := [(2, .int xv16), (3, .ref qv11), (0, .ref h0), (1, .ref h1)]) hx hb dX2_measureKey_44 hl (k := 3) rfl (by rw [exv16]; rfl) (by decide) rfl (fun ls hl => ?_)
              refine lv_goto (tgt := 10) hx hb dX2_measureKey_47 (by decide) ?_
              exact ih10 xv16 Sa _ _ _ (hF) (by omega) (by omega) (lv_sub hl [2, 3, 0] rfl) hM
            · have tcv15 := eqT cv15
              refine lv_aload_n hx hb dX2_measureKey_38 rfl (lv_at hl 1 rfl) ?_
              refine lv_aload_n hx hb dX2_measureKey_39 rfl (lv_at hl 2 rfl) ?_
              refine lv_aload_n hx hb dX2_measureKey_40 rfl (lv_at hl 0 rfl) ?_
              refine r_V (As := [.ref h1, .ref qv11]) (rest := []) (ci := 2) C hM (c_X2_measureForests l D H0 Sa kc ns h0 h1 qv11 hI qf qt hu vv3 vv4 kqf kqt kh0 kh1 kqv11) i_X2_measureForests m_X2_68 kh0 rfl rfl rfl hl.1 rfl (Nat.le_of_ble_eq_true rfl) ⟨by decide, by decide⟩ ⟨by decide, by decide⟩ dX2_measureKey_41 (fun uv20 Sv17 kv18 nv19 H locs pv21 hM => ?_)
              obtain ⟨rfl, rfl, hf9, huv20⟩ := pv21
              have hF := hF.trans hf9
              have hI := hI.fe hf9
              have kqv11 : mK Sv17 qv11 = 6 := (congrFun (hf9.1) qv11).trans kqv11
              have kh0 : mK Sv17 h0 = 3 := (congrFun (hf9.1) h0).trans kh0
              have kh1 : mK Sv17 h1 = 6 := (congrFun (hf9.1) h1).trans kh1
              have kqf : mK Sv17 qf = 5 := (congrFun (hf9.1) qf).trans kqf
              have kqt : mK Sv17 qt = 5 := (congrFun (hf9.1) qt).trans kqt
              have vv22 : mR Sv17 203 h0 = some qf := (congrFun (congrFun hf9.2.1 203) h0).trans (vv3)
              have vv23 : mR Sv17 204 h0 = some qt := (congrFun (congrFun hf9.2.1 204) h0).trans (vv4)
              refine W.eq (g2 := F0 m 44 ls []) rfl ?_
              obtain ⟨xv24, exv24⟩ : ∃ y : Int32, y = j + (-1) := ⟨_, rfl⟩
              try (have txv24 := addI (a := j) (b := (-1)) (by omega) (by omega); rw [← exv24] at txv24)
              refine lv_iinc (v := xv24) (lv' := [(2, .int xv24), (3, .ref qv11), (0, .ref h0), (1, .ref h1)]) hx hb dX2_measureKey_44 hl (k := 3) rfl (by rw [exv24]; rfl) (by decide) rfl (fun ls hl => ?_)
              refine lv_goto (tgt := 10) hx hb dX2_measureKey_47 (by decide) ?_
              exact ih10 xv24 Sv17 _ _ _ (hF) (by omega) (by omega) (lv_sub hl [2, 3, 0] rfl) hM
          | some qv14 =>
            have kqv14 : mK Sa qv14 = 6 := krv13 qv14 rfl
            refine lv_ifnonnull (tgt := 38) hx hb dX2_measureKey_31 (by decide) ?_
            refine lv_aload_n hx hb dX2_measureKey_38 rfl (lv_at hl 1 rfl) ?_
            refine lv_aload_n hx hb dX2_measureKey_39 rfl (lv_at hl 2 rfl) ?_
            refine lv_aload_n hx hb dX2_measureKey_40 rfl (lv_at hl 0 rfl) ?_
            refine r_V (As := [.ref h1, .ref qv11]) (rest := []) (ci := 2) C hM (c_X2_measureForests l D H0 Sa kc ns h0 h1 qv11 hI qf qt hu vv3 vv4 kqf kqt kh0 kh1 kqv11) i_X2_measureForests m_X2_68 kh0 rfl rfl rfl hl.1 rfl (Nat.le_of_ble_eq_true rfl) ⟨by decide, by decide⟩ ⟨by decide, by decide⟩ dX2_measureKey_41 (fun uv28 Sv25 kv26 nv27 H locs pv29 hM => ?_)
            obtain ⟨rfl, rfl, hf9, huv28⟩ := pv29
            have hF := hF.trans hf9
            have hI := hI.fe hf9
            have kqv11 : mK Sv25 qv11 = 6 := (congrFun (hf9.1) qv11).trans kqv11
            have kh0 : mK Sv25 h0 = 3 := (congrFun (hf9.1) h0).trans kh0
            have kh1 : mK Sv25 h1 = 6 := (congrFun (hf9.1) h1).trans kh1
            have kqf : mK Sv25 qf = 5 := (congrFun (hf9.1) qf).trans kqf
            have kqt : mK Sv25 qt = 5 := (congrFun (hf9.1) qt).trans kqt
            have kqv14 : mK Sv25 qv14 = 6 := (congrFun (hf9.1) qv14).trans kqv14
            have vv30 : mR Sv25 203 h0 = some qf := (congrFun (congrFun hf9.2.1 203) h0).trans (vv3)
            have vv31 : mR Sv25 204 h0 = some qt := (congrFun (congrFun hf9.2.1 204) h0).trans (vv4)
            have vv32 : mR Sv25 508 qv11 = some qv14 := (congrFun (congrFun hf9.2.1 508) qv11).trans (erv13)
            refine W.eq (g2 := F0 m 44 ls []) rfl ?_
            obtain ⟨xv33, exv33⟩ : ∃ y : Int32, y = j + (-1) := ⟨_, rfl⟩
            try (have txv33 := addI (a := j) (b := (-1)) (by omega) (by omega); rw [← exv33] at txv33)
            refine lv_iinc (v := xv33) (lv' := [(2, .int xv33), (3, .ref qv11), (0, .ref h0), (1, .ref h1)]) hx hb dX2_measureKey_44 hl (k := 3) rfl (by rw [exv33]; rfl) (by decide) rfl (fun ls hl => ?_)
            refine lv_goto (tgt := 10) hx hb dX2_measureKey_47 (by decide) ?_
            exact ih10 xv33 Sv25 _ _ _ (hF) (by omega) (by omega) (lv_sub hl [2, 3, 0] rfl) hM
  exact loop10 (((xv2.toInt + 1).toNat) + 1) xv2 S _ _ _ (hF) (by omega) (by omega) (lv_sub hl [1, 2, 0] rfl) hM
set_option maxHeartbeats 4000000 in
set_option maxRecDepth 100000 in
theorem c_X2_measure (l : Launch) (D : gD) (H0 : gB) (S : Mem) (kc ns : Nat) (h0 h1 : Nat) {u : Nat} {tl : Int} {rho : Nat × Nat} (hI : CI x0 u tl rho S) (hu : u < 2000000000) (kh0 : mK S h0 = 3) (kh1 : mK S h1 = 6) : Met l yX2_measure (wsU yX2_measure cX2_measure 5 none) ({ frames := 4, cells := 0, slots := 0, locals := 98 } : Room) (mP D H0 S kc ns [.ref h0, .ref h1]) (mQ D H0 gV (fun r S1 k1 n1 => kc = k1 ∧ ns = n1 ∧ fEq S S1 ∧ True)) 0 0 (mF H0) := by
  refine r_met (own := RX2) (by decide +kernel) rfl (Nat.le_of_ble_eq_true rfl) ?_
  intro p e s m args below meth c C hr hlk hnm H ls hl hM
  obtain ⟨hx, hb, hml, hown, hts, -, -⟩ := id C
  have hl : lv_has ls 5 [(0, .ref h0), (1, .ref h1)] := hl
  have hI0 := hI
  have hF : fEq S S := fEq.rf
  have t_m1 : (-1 : Int32).toInt = -1 := by decide
  have t_0 : (0 : Int32).toInt = 0 := by decide
  have t_1 : (1 : Int32).toInt = 1 := by decide
  refine lv_aload_n hx hb dX2_measure_0 rfl (lv_at hl 1 rfl) ?_
  refine r_getN (ci := 5) (k := 1) (v := .int (mI S 501 h1)) C hM kh1 f_X2_48 rfl dX2_measure_1 ?_
  refine lv_topi (fun xv1 exv1 => ?_)
  have fxv1 := NI.f501 hI.2 kh1
  rw [← exv1] at fxv1
  refine lv_aload_n hx hb dX2_measure_4 rfl (lv_at hl 1 rfl) ?_
  refine r_getN (ci := 5) (k := 9) (v := .int (mI S 509 h1)) C hM kh1 f_X2_52 rfl dX2_measure_5 ?_
  refine lv_topi (fun xv2 exv2 => ?_)
  have fxv2 := NI.f509 hI.2 kh1
  rw [← exv2] at fxv2
  refine lv_iadd hx hb dX2_measure_8 ?_
  refine lv_topi (fun xv3 exv3 => ?_)
  try (have txv3 := addI (a := xv1) (b := xv2) (by omega) (by omega); rw [← exv3] at txv3)
  refine lv_istore_n (lv' := [(2, .int xv3), (0, .ref h0), (1, .ref h1)]) hx hb dX2_measure_9 rfl hl (by decide) rfl (fun ls hl => ?_)
  refine lv_aload_n hx hb dX2_measure_10 rfl (lv_at hl 1 rfl) ?_
  refine r_get (ci := 2) (k := 3) C hM kh0 f_X2_19 rfl dX2_measure_11 ?_
  obtain ⟨rv4, erv4, krv4⟩ : ∃ r : Option Nat, mR S 203 h0 = r ∧ ∀ q, r = some q → mK S q = 5 := ⟨_, rfl, TI.opt hI.1 (ci := 2) (k := 3) kh0⟩
  refine W.eq (g2 := F0 m 14 ls [va_rf rv4]) (by rw [← erv4]; rfl) ?_
  cases rv4 with
  | none =>
    refine lv_ifnullN (tgt := 47) hx hb dX2_measure_14 (by decide) ?_
    exact r_retV C hr hlk hM (⟨rfl, rfl, hF, trivial⟩) dX2_measure_47
  | some qv5 =>
    have kqv5 : mK S qv5 = 5 := krv4 qv5 rfl
    refine lv_ifnull hx hb dX2_measure_14 ?_
    refine lv_aload_n hx hb dX2_measure_17 rfl (lv_at hl 1 rfl) ?_
    refine r_get (ci := 2) (k := 4) C hM kh0 f_X2_23 rfl dX2_measure_18 ?_
    obtain ⟨rv6, erv6, krv6⟩ : ∃ r : Option Nat, mR S 204 h0 = r ∧ ∀ q, r = some q → mK S q = 5 := ⟨_, rfl, TI.opt hI.1 (ci := 2) (k := 4) kh0⟩
    refine W.eq (g2 := F0 m 21 ls [va_rf rv6]) (by rw [← erv6]; rfl) ?_
    cases rv6 with
    | none =>
      refine lv_ifnullN (tgt := 47) hx hb dX2_measure_21 (by decide) ?_
      exact r_retV C hr hlk hM (⟨rfl, rfl, hF, trivial⟩) dX2_measure_47
    | some qv7 =>
      have kqv7 : mK S qv7 = 5 := krv6 qv7 rfl
      refine lv_ifnull hx hb dX2_measure_21 ?_
      refine lv_iload_n hx hb dX2_measure_24 rfl (lv_at hl 0 rfl) ?_
      refine lv_aload_n hx hb dX2_measure_25 rfl (lv_at hl 1 rfl) ?_
      refine r_get (ci := 2) (k := 3) (v := .ref qv5) C hM kh0 f_X2_19 (congrArg va_rf (erv4)) dX2_measure_26 ?_
      refine r_getN (ci := 4) (k := 1) (v := .int (mI S 401 qv5)) C hM kqv5 f_X2_55 rfl dX2_measure_29 ?_
      refine lv_topi (fun xv8 exv8 => ?_)
      have fxv8 := NI.f401 hI.2 kqv5
      rw [← exv8] at fxv8
      refine lv_icmp_ge (tgt := 47) hx hb dX2_measure_32 (by decide) (fun cv9 => ?_) (fun cv9 => ?_)
      · have tcv9 := leT cv9
        exact r_retV C hr hlk hM (⟨rfl, rfl, hF, trivial⟩) dX2_measure_47
      · have tcv9 := leF cv9
        refine lv_aload_n hx hb dX2_measure_35 rfl (lv_at hl 1 rfl) ?_
        obtain ⟨qv10, eqv10, kqv10, nqv10⟩ := TI.nn hI.1 (ci := 2) (k := 2) kh0
        refine r_get (ci := 2) (k := 2) (v := .ref qv10) C hM kh0 f_X2_15 (congrArg va_rf eqv10) dX2_measure_36 ?_
        refine lv_aload_n hx hb dX2_measure_39 rfl (lv_at hl 2 rfl) ?_
        refine r_getN (ci := 5) (k := 1) (v := .int (mI S 501 h1)) C hM kh1 f_X2_48 rfl dX2_measure_40 ?_
        refine lv_topi (fun xv11 exv11 => ?_)
        have fxv11 := NI.f501 hI.2 kh1
        rw [← exv11] at fxv11
        have gxv11 : xv11 = xv1 := exv11.trans (exv1.symm)
        have hxv11 : xv11.toInt = xv1.toInt := by rw [gxv11]
        refine r_zald C hM kqv10 (inI (by omega) (by rw [nqv10 (by decide)]; show _ < (60 : Int); omega)) dX2_measure_43 ?_
        refine lv_topi (fun xv12 exv12 => ?_)
        refine lv_if_eq (tgt := 48) hx hb dX2_measure_44 (by decide) (fun cv13 => ?_) (fun cv13 => ?_)
        · have tcv13 := eqT cv13
          refine lv_iload_n hx hb dX2_measure_48 rfl (lv_at hl 0 rfl) ?_
          refine lv_istore_n (lv' := [(3, .int xv3), (2, .int xv3), (0, .ref h0), (1, .ref h1)]) hx hb dX2_measure_49 rfl hl (by decide) rfl (fun ls hl => ?_)
          have hFa50 := hF
          have loop50 : ∀ (fu : Nat) (j : Int32) (Sa : Mem) (H : Heap) (locs : List Loc) (ls : Array Slot), (fEq S Sa) → (-1 ≤ j.toInt ∧ j.toInt < 60) → (j.toInt + 1).toNat < fu → lv_has ls 5 [(0, .ref h0), (1, .ref h1), (2, .int xv3), (3, .int j)] → mH D H0 Sa kc ns H locs → W p l e ({ frames := 4, cells := 0, slots := 0, locals := 98 } : Room) s m args below meth c H locs 0 0 (MQ below (mQ D H0 gV (fun r S1 k1 n1 => kc = k1 ∧ ns = n1 ∧ fEq S S1 ∧ True)) args s 0 0 (mF H0)) (F0 m 50 ls []) := by
            intro fu
            induction fu with
            | zero => intro j Sa H locs ls h50_0 h50_1 hfu; exact absurd hfu (by omega)
            | succ fu ih50 =>
              intro j Sa H locs ls h50_0 h50_1 hfu hl hM
              have hF := h50_0
              have hI := hI0.fe hF
              have kh0 : mK Sa h0 = 3 := (congrFun (hF.1.trans hFa50.1.symm) h0).trans kh0
              have kh1 : mK Sa h1 = 6 := (congrFun (hF.1.trans hFa50.1.symm) h1).trans kh1
              have kqv5 : mK Sa qv5 = 5 := (congrFun (hF.1.trans hFa50.1.symm) qv5).trans kqv5
              have kqv7 : mK Sa qv7 = 5 := (congrFun (hF.1.trans hFa50.1.symm) qv7).trans kqv7
              have vv14 : mR Sa 203 h0 = some qv5 := ((congrFun (congrFun hF.2.1 203) h0).trans (congrFun (congrFun hFa50.2.1 203) h0).symm).trans (erv4)
              have vv15 : mR Sa 204 h0 = some qv7 := ((congrFun (congrFun hF.2.1 204) h0).trans (congrFun (congrFun hFa50.2.1 204) h0).symm).trans (erv6)
              refine lv_iload_n hx hb dX2_measure_50 rfl (lv_at hl 3 rfl) ?_
              refine lv_aload_n hx hb dX2_measure_51 rfl (lv_at hl 1 rfl) ?_
              refine r_getN (ci := 5) (k := 1) (v := .int (mI Sa 501 h1)) C hM kh1 f_X2_48 rfl dX2_measure_52 ?_
              refine lv_topi (fun xv16 exv16 => ?_)
              have fxv16 := NI.f501 hI.2 kh1
              rw [← exv16] at fxv16
              refine lv_icmp_lt (tgt := 110) hx hb dX2_measure_55 (by decide) (fun cv17 => ?_) (fun cv17 => ?_)
              · have tcv17 := ltT cv17
                refine lv_aload_n hx hb dX2_measure_110 rfl (lv_at hl 1 rfl) ?_
                refine r_getN (ci := 5) (k := 1) (v := .int (mI Sa 501 h1)) C hM kh1 f_X2_48 rfl dX2_measure_111 ?_
                refine lv_topi (fun xv18 exv18 => ?_)
                have fxv18 := NI.f501 hI.2 kh1
                rw [← exv18] at fxv18
                have gxv18 : xv18 = xv16 := exv18.trans (exv16.symm)
                have hxv18 : xv18.toInt = xv16.toInt := by rw [gxv18]
                refine lv_istore_n (lv' := [(3, .int xv18), (0, .ref h0), (1, .ref h1), (2, .int xv3)]) hx hb dX2_measure_114 rfl hl (by decide) rfl (fun ls hl => ?_)
                have hFa115 := hF
                have loop115 : ∀ (fu : Nat) (j2 : Int32) (Sb : Mem) (H : Heap) (locs : List Loc) (ls : Array Slot), (fEq S Sb) → (0 ≤ j2.toInt) → (60 - j2.toInt).toNat < fu → lv_has ls 5 [(0, .ref h0), (1, .ref h1), (2, .int xv3), (3, .int j2)] → mH D H0 Sb kc ns H locs → W p l e ({ frames := 4, cells := 0, slots := 0, locals := 98 } : Room) s m args below meth c H locs 0 0 (MQ below (mQ D H0 gV (fun r S1 k1 n1 => kc = k1 ∧ ns = n1 ∧ fEq S S1 ∧ True)) args s 0 0 (mF H0)) (F0 m 115 ls []) := by
                  intro fu
                  induction fu with
                  | zero => intro j2 Sb H locs ls h115_0 h115_1 hfu; exact absurd hfu (by omega)
                  | succ fu ih115 =>
                    intro j2 Sb H locs ls h115_0 h115_1 hfu hl hM
                    have hF := h115_0
                    have hI := hI0.fe hF
                    have kh0 : mK Sb h0 = 3 := (congrFun (hF.1.trans hFa115.1.symm) h0).trans kh0
                    have kh1 : mK Sb h1 = 6 := (congrFun (hF.1.trans hFa115.1.symm) h1).trans kh1
                    have kqv5 : mK Sb qv5 = 5 := (congrFun (hF.1.trans hFa115.1.symm) qv5).trans kqv5
                    have kqv7 : mK Sb qv7 = 5 := (congrFun (hF.1.trans hFa115.1.symm) qv7).trans kqv7
                    have vv19 : mR Sb 203 h0 = some qv5 := ((congrFun (congrFun hF.2.1 203) h0).trans (congrFun (congrFun hFa115.2.1 203) h0).symm).trans (vv14)
                    have vv20 : mR Sb 204 h0 = some qv7 := ((congrFun (congrFun hF.2.1 204) h0).trans (congrFun (congrFun hFa115.2.1 204) h0).symm).trans (vv15)
                    refine lv_iload_n hx hb dX2_measure_115 rfl (lv_at hl 3 rfl) ?_
                    refine lv_iload_n hx hb dX2_measure_116 rfl (lv_at hl 2 rfl) ?_
                    refine lv_icmp_gt (tgt := 133) hx hb dX2_measure_117 (by decide) (fun cv21 => ?_) (fun cv21 => ?_)
                    · have tcv21 := ltT cv21
                      exact r_retV C hr hlk hM (⟨rfl, rfl, hF, trivial⟩) dX2_measure_133
                    · have tcv21 := ltF cv21
                      refine lv_aload_n hx hb dX2_measure_120 rfl (lv_at hl 0 rfl) ?_
                      obtain ⟨qv22, eqv22, kqv22, nqv22⟩ := TI.nn hI.1 (ci := 2) (k := 2) kh0
                      refine r_get (ci := 2) (k := 2) (v := .ref qv22) C hM kh0 f_X2_15 (congrArg va_rf eqv22) dX2_measure_121 ?_
                      refine lv_iload_n hx hb dX2_measure_124 rfl (lv_at hl 3 rfl) ?_
                      refine lv_iconst (v := 1) hx hb dX2_measure_125 (by decide) ?_
                      refine r_zast C hM kqv22 (inI (by omega) (by rw [nqv22 (by decide)]; show _ < (60 : Int); omega)) dX2_measure_126 (fun H locs hM => ?_)
                      have hM : mH D H0 (qI Sb qv22 j2.toNatClampNeg (vp_nar .boolean 1)) kc ns H locs := hM
                      have hI := hI.fe (fEq.AI (S := Sb) (a := qv22) (i := j2.toNatClampNeg) (v := (vp_nar .boolean 1)))
                      have hF := hF.trans (fEq.AI (S := Sb) (a := qv22) (i := j2.toNatClampNeg) (v := (vp_nar .boolean 1)))
                      obtain ⟨xv23, exv23⟩ : ∃ y : Int32, y = j2 + 1 := ⟨_, rfl⟩
                      try (have txv23 := addI (a := j2) (b := 1) (by omega) (by omega); rw [← exv23] at txv23)
                      refine lv_iinc (v := xv23) (lv' := [(3, .int xv23), (0, .ref h0), (1, .ref h1), (2, .int xv3)]) hx hb dX2_measure_127 hl (k := 3) rfl (by rw [exv23]; rfl) (by decide) rfl (fun ls hl => ?_)
                      refine lv_goto (tgt := 115) hx hb dX2_measure_130 (by decide) ?_
                      exact ih115 xv23 (qI Sb qv22 j2.toNatClampNeg (vp_nar .boolean 1)) _ _ _ (hF) (by omega) (by omega) (lv_sub hl [1, 2, 3, 0] rfl) hM
                exact loop115 (((60 - xv18.toInt).toNat) + 1) xv18 Sa _ _ _ (hF) (by omega) (by omega) (lv_sub hl [1, 2, 3, 0] rfl) hM
              · have tcv17 := ltF cv17
                refine lv_aload_n hx hb dX2_measure_58 rfl (lv_at hl 0 rfl) ?_
                refine r_get (ci := 2) (k := 3) (v := .ref qv5) C hM kh0 f_X2_19 (congrArg va_rf (vv14)) dX2_measure_59 ?_
                refine lv_iload_n hx hb dX2_measure_62 rfl (lv_at hl 3 rfl) ?_
                refine r_VN (As := [.int j]) (rest := []) (ci := 4) C hM (c_X4_at l D H0 Sa kc ns qv5 j hI id kqv5) i_X4_at m_X2_60 kqv5 rfl rfl rfl hl.1 rfl (Nat.le_of_ble_eq_true rfl) ⟨by decide, by decide⟩ ⟨by decide, by decide⟩ dX2_measure_63 (fun rv27 Sv24 kv25 nv26 H locs pv28 hM => ?_)
                obtain ⟨rfl, rfl, rfl, krv27⟩ := pv28
                refine W.eq (g2 := F0 m 66 ls [va_rf rv27]) rfl ?_
                refine lv_astoreQ (lv' := [(4, va_rf rv27), (0, .ref h0), (1, .ref h1), (2, .int xv3), (3, .int j)]) hx hb dX2_measure_66 hl (by decide) rfl (fun ls hl => ?_)
                refine lv_aloadQ hx hb dX2_measure_68 (lv_at hl 0 rfl) ?_
                cases rv27 with
                | none =>
                  refine lv_ifnullN (tgt := 104) hx hb dX2_measure_70 (by decide) ?_
                  obtain ⟨xv30, exv30⟩ : ∃ y : Int32, y = j + (-1) := ⟨_, rfl⟩
                  try (have txv30 := addI (a := j) (b := (-1)) (by omega) (by omega); rw [← exv30] at txv30)
                  refine lv_iinc (v := xv30) (lv' := [(3, .int xv30), (4, .null), (0, .ref h0), (1, .ref h1), (2, .int xv3)]) hx hb dX2_measure_104 hl (k := 4) rfl (by rw [exv30]; rfl) (by decide) rfl (fun ls hl => ?_)
                  refine lv_goto (tgt := 50) hx hb dX2_measure_107 (by decide) ?_
                  exact ih50 xv30 Sa _ _ _ (hF) (by omega) (by omega) (lv_sub hl [2, 3, 4, 0] rfl) hM
                | some qv29 =>
                  have kqv29 : mK Sa qv29 = 6 := krv27 qv29 rfl
                  refine lv_ifnull hx hb dX2_measure_70 ?_
                  refine lv_aload_n hx hb dX2_measure_73 rfl (lv_at hl 1 rfl) ?_
                  obtain ⟨qv31, eqv31, kqv31, nqv31⟩ := TI.nn hI.1 (ci := 2) (k := 2) kh0
                  refine r_get (ci := 2) (k := 2) (v := .ref qv31) C hM kh0 f_X2_15 (congrArg va_rf eqv31) dX2_measure_74 ?_
                  refine lv_iload_n hx hb dX2_measure_77 rfl (lv_at hl 4 rfl) ?_
                  refine r_zald C hM kqv31 (inI (by omega) (by rw [nqv31 (by decide)]; show _ < (60 : Int); omega)) dX2_measure_78 ?_
                  refine lv_topi (fun xv32 exv32 => ?_)
                  refine lv_if_ne (tgt := 104) hx hb dX2_measure_79 (by decide) (fun cv33 => ?_) (fun cv33 => ?_)
                  · have tcv33 := eqF cv33
                    obtain ⟨xv34, exv34⟩ : ∃ y : Int32, y = j + (-1) := ⟨_, rfl⟩
                    try (have txv34 := addI (a := j) (b := (-1)) (by omega) (by omega); rw [← exv34] at txv34)
                    refine lv_iinc (v := xv34) (lv' := [(3, .int xv34), (4, .ref qv29), (0, .ref h0), (1, .ref h1), (2, .int xv3)]) hx hb dX2_measure_104 hl (k := 4) rfl (by rw [exv34]; rfl) (by decide) rfl (fun ls hl => ?_)
                    refine lv_goto (tgt := 50) hx hb dX2_measure_107 (by decide) ?_
                    exact ih50 xv34 Sa _ _ _ (hF) (by omega) (by omega) (lv_sub hl [2, 3, 4, 0] rfl) hM
                  · have tcv33 := eqT cv33
                    refine lv_aload hx hb dX2_measure_82 (lv_at hl 0 rfl) ?_
                    refine r_getN (ci := 5) (k := 8) C hM kqv29 f_X2_45 rfl dX2_measure_84 ?_
                    obtain ⟨rv35, erv35, krv35⟩ : ∃ r : Option Nat, mR Sa 508 qv29 = r ∧ ∀ q, r = some q → mK Sa q = 6 := ⟨_, rfl, TI.opt hI.1 (ci := 5) (k := 8) kqv29⟩
                    refine W.eq (g2 := F0 m 87 ls [va_rf rv35]) (by rw [← erv35]; rfl) ?_
                    cases rv35 with
                    | none =>
                      refine lv_ifnonnullN hx hb dX2_measure_87 ?_
                      refine lv_iload_n hx hb dX2_measure_90 rfl (lv_at hl 4 rfl) ?_
                      refine lv_aload_n hx hb dX2_measure_91 rfl (lv_at hl 2 rfl) ?_
                      refine r_getN (ci := 5) (k := 1) (v := .int (mI Sa 501 h1)) C hM kh1 f_X2_48 rfl dX2_measure_92 ?_
                      refine lv_topi (fun xv37 exv37 => ?_)
                      have fxv37 := NI.f501 hI.2 kh1
                      rw [← exv37] at fxv37
                      have gxv37 : xv37 = xv16 := exv37.trans (exv16.symm)
                      have hxv37 : xv37.toInt = xv16.toInt := by rw [gxv37]
                      refine lv_icmp_ne (tgt := 104) hx hb dX2_measure_95 (by decide) (fun cv38 => ?_) (fun cv38 => ?_)
                      · have tcv38 := eqF cv38
                        obtain ⟨xv39, exv39⟩ : ∃ y : Int32, y = j + (-1) := ⟨_, rfl⟩
                        try (have txv39 := addI (a := j) (b := (-1)) (by omega) (by omega); rw [← exv39] at txv39)
                        refine lv_iinc (v := xv39) (lv' := [(3, .int xv39), (4, .ref qv29), (0, .ref h0), (1, .ref h1), (2, .int xv3)]) hx hb dX2_measure_104 hl (k := 4) rfl (by rw [exv39]; rfl) (by decide) rfl (fun ls hl => ?_)
                        refine lv_goto (tgt := 50) hx hb dX2_measure_107 (by decide) ?_
                        exact ih50 xv39 Sa _ _ _ (hF) (by omega) (by omega) (lv_sub hl [2, 3, 4, 0] rfl) hM
                      · have tcv38 := eqT cv38
                        refine lv_aload_n hx hb dX2_measure_98 rfl (lv_at hl 1 rfl) ?_
                        refine lv_aload hx hb dX2_measure_99 (lv_at hl 0 rfl) ?_
                        refine r_V (As := [.ref qv29]) (rest := []) (ci := 2) C hM (c_X2_measureKey l D H0 Sa kc ns h0 qv29 hI qv5 qv7 hu vv14 vv15 kqv5 kqv7 kh0 kqv29) i_X2_measureKey m_X2_64 kh0 rfl rfl rfl hl.1 rfl (Nat.le_of_ble_eq_true rfl) ⟨by decide, by decide⟩ ⟨by decide, by decide⟩ dX2_measure_101 (fun uv43 Sv40 kv41 nv42 H locs pv44 hM => ?_)
                        obtain ⟨rfl, rfl, hf9, huv43⟩ := pv44
                        have hF := hF.trans hf9
                        have hI := hI.fe hf9
                        have kqv29 : mK Sv40 qv29 = 6 := (congrFun (hf9.1) qv29).trans kqv29
                        have kh0 : mK Sv40 h0 = 3 := (congrFun (hf9.1) h0).trans kh0
                        have kh1 : mK Sv40 h1 = 6 := (congrFun (hf9.1) h1).trans kh1
                        have kqv5 : mK Sv40 qv5 = 5 := (congrFun (hf9.1) qv5).trans kqv5
                        have kqv7 : mK Sv40 qv7 = 5 := (congrFun (hf9.1) qv7).trans kqv7
                        have vv45 : mR Sv40 203 h0 = some qv5 := (congrFun (congrFun hf9.2.1 203) h0).trans (vv14)
                        have vv46 : mR Sv40 204 h0 = some qv7 := (congrFun (congrFun hf9.2.1 204) h0).trans (vv15)
                        refine W.eq (g2 := F0 m 104 ls []) rfl ?_
                        obtain ⟨xv47, exv47⟩ : ∃ y : Int32, y = j + (-1) := ⟨_, rfl⟩
                        try (have txv47 := addI (a := j) (b := (-1)) (by omega) (by omega); rw [← exv47] at txv47)
                        refine lv_iinc (v := xv47) (lv' := [(3, .int xv47), (4, .ref qv29), (0, .ref h0), (1, .ref h1), (2, .int xv3)]) hx hb dX2_measure_104 hl (k := 4) rfl (by rw [exv47]; rfl) (by decide) rfl (fun ls hl => ?_)
                        refine lv_goto (tgt := 50) hx hb dX2_measure_107 (by decide) ?_
                        exact ih50 xv47 Sv40 _ _ _ (hF) (by omega) (by omega) (lv_sub hl [2, 3, 4, 0] rfl) hM
                    | some qv36 =>
                      have kqv36 : mK Sa qv36 = 6 := krv35 qv36 rfl
                      refine lv_ifnonnull (tgt := 98) hx hb dX2_measure_87 (by decide) ?_
                      refine lv_aload_n hx hb dX2_measure_98 rfl (lv_at hl 1 rfl) ?_
                      refine lv_aload hx hb dX2_measure_99 (lv_at hl 0 rfl) ?_
                      refine r_V (As := [.ref qv29]) (rest := []) (ci := 2) C hM (c_X2_measureKey l D H0 Sa kc ns h0 qv29 hI qv5 qv7 hu vv14 vv15 kqv5 kqv7 kh0 kqv29) i_X2_measureKey m_X2_64 kh0 rfl rfl rfl hl.1 rfl (Nat.le_of_ble_eq_true rfl) ⟨by decide, by decide⟩ ⟨by decide, by decide⟩ dX2_measure_101 (fun uv51 Sv48 kv49 nv50 H locs pv52 hM => ?_)
                      obtain ⟨rfl, rfl, hf9, huv51⟩ := pv52
                      have hF := hF.trans hf9
                      have hI := hI.fe hf9
                      have kqv29 : mK Sv48 qv29 = 6 := (congrFun (hf9.1) qv29).trans kqv29
                      have kh0 : mK Sv48 h0 = 3 := (congrFun (hf9.1) h0).trans kh0
                      have kh1 : mK Sv48 h1 = 6 := (congrFun (hf9.1) h1).trans kh1
                      have kqv5 : mK Sv48 qv5 = 5 := (congrFun (hf9.1) qv5).trans kqv5
                      have kqv7 : mK Sv48 qv7 = 5 := (congrFun (hf9.1) qv7).trans kqv7
                      have kqv36 : mK Sv48 qv36 = 6 := (congrFun (hf9.1) qv36).trans kqv36
                      have vv53 : mR Sv48 203 h0 = some qv5 := (congrFun (congrFun hf9.2.1 203) h0).trans (vv14)
                      have vv54 : mR Sv48 204 h0 = some qv7 := (congrFun (congrFun hf9.2.1 204) h0).trans (vv15)
                      have vv55 : mR Sv48 508 qv29 = some qv36 := (congrFun (congrFun hf9.2.1 508) qv29).trans (erv35)
                      refine W.eq (g2 := F0 m 104 ls []) rfl ?_
                      obtain ⟨xv56, exv56⟩ : ∃ y : Int32, y = j + (-1) := ⟨_, rfl⟩
                      try (have txv56 := addI (a := j) (b := (-1)) (by omega) (by omega); rw [← exv56] at txv56)
                      refine lv_iinc (v := xv56) (lv' := [(3, .int xv56), (4, .ref qv29), (0, .ref h0), (1, .ref h1), (2, .int xv3)]) hx hb dX2_measure_104 hl (k := 4) rfl (by rw [exv56]; rfl) (by decide) rfl (fun ls hl => ?_)
                      refine lv_goto (tgt := 50) hx hb dX2_measure_107 (by decide) ?_
                      exact ih50 xv56 Sv48 _ _ _ (hF) (by omega) (by omega) (lv_sub hl [2, 3, 4, 0] rfl) hM
          exact loop50 (((xv3.toInt + 1).toNat) + 1) xv3 S _ _ _ (hF) (by omega) (by omega) (lv_sub hl [2, 3, 1, 0] rfl) hM
        · have tcv13 := eqF cv13
          exact r_retV C hr hlk hM (⟨rfl, rfl, hF, trivial⟩) dX2_measure_47
