set_option maxHeartbeats 4000000 in
set_option maxRecDepth 100000 in
theorem c_X2_begin (l : Launch) (D : gD) (H0 : Heap) (S : Mem) (kc ns : Nat) (h0 h1 h2 : Nat) {u : Nat} {tl : Int} {rho : Nat} (hI : CI x0 u tl rho S) (kh0 : mK S h0 = 3) (kh1 : mK S h1 = 5) (kh2 : mK S h2 = 5) : Met l yX2_begin (wsU yX2_begin cX2_begin 4 none) ({ frames := 0, cells := 0, slots := 0, locals := 0 } : Room) (mP D H0 S kc ns [.ref h0, .ref h1, .ref h2]) (mQ D H0 gV (fun r S1 k1 n1 => kc = k1 ∧ ns = n1 ∧ mK S1 = mK S ∧ CI x0 u tl rho S1 ∧ True)) 0 0 (mF H0) := by
  refine r_met (own := RX2) (by decide +kernel) rfl (Nat.le_of_ble_eq_true rfl) ?_
  intro p e s m args below meth c C hr hlk hnm H ls hl hM
  obtain ⟨hx, hb, hml, hown, hts, -, -⟩ := id C
  have hl : lv_has ls 4 [(0, .ref h0), (1, .ref h1), (2, .ref h2)] := hl
  have hI0 := hI
  have hK9 : mK S = mK S := rfl
  have t_0 : (0 : Int32).toInt = 0 := by decide
  have t_1 : (1 : Int32).toInt = 1 := by decide
  have t_60 : (60 : Int32).toInt = 60 := by decide
  refine lv_aload_n hx hb dX2_begin_0 rfl (lv_at hl 0 rfl) ?_
  refine lv_aload_n hx hb dX2_begin_1 rfl (lv_at hl 1 rfl) ?_
  refine r_put C hM kh0 f_X2_19 (fun r h => by cases h; rfl) rfl rfl (mPut.Rf (ci := 2) (k := 3) (x := (some h1)) rfl) dX2_begin_2 (fun H locs hM => ?_)
  have hM : mH D H0 (pR S 203 h0 (some h1)) kc ns H locs := hM
  have hI : CI x0 u tl rho (pR S 203 h0 (some h1)) := CI.putR (ci := 2) (k := 3) hI kh0 (fun z h => by cases h; exact ⟨kh1, fun h => absurd rfl h⟩) (Or.inl rfl) (by decide) (by decide) (by decide)
  refine lv_aload_n hx hb dX2_begin_5 rfl (lv_at hl 0 rfl) ?_
  refine lv_aload_n hx hb dX2_begin_6 rfl (lv_at hl 2 rfl) ?_
  refine r_put C hM kh0 f_X2_23 (fun r h => by cases h; rfl) rfl rfl (mPut.Rf (ci := 2) (k := 4) (x := (some h2)) rfl) dX2_begin_7 (fun H locs hM => ?_)
  have hM : mH D H0 (pR (pR S 203 h0 (some h1)) 204 h0 (some h2)) kc ns H locs := hM
  have hI : CI x0 u tl rho (pR (pR S 203 h0 (some h1)) 204 h0 (some h2)) := CI.putR (ci := 2) (k := 4) hI kh0 (fun z h => by cases h; exact ⟨kh2, fun h => absurd rfl h⟩) (Or.inl rfl) (by decide) (by decide) (by decide)
  refine lv_iconst (v := 0) hx hb dX2_begin_10 (by decide) ?_
  refine lv_istore_n (lv' := [(3, .int 0), (0, .ref h0), (1, .ref h1), (2, .ref h2)]) hx hb dX2_begin_11 rfl hl (by decide) rfl (fun ls hl => ?_)
  have loop12 : ∀ (fu : Nat) (j : Int32) (Sa : Mem) (H : Heap) (locs : List Loc) (ls : Array Slot), (mK Sa = mK S) → (CI x0 u tl rho Sa) → (0 ≤ j.toInt) → (60 - j.toInt).toNat < fu → lv_has ls 4 [(0, .ref h0), (1, .ref h1), (2, .ref h2), (3, .int j)] → mH D H0 Sa kc ns H locs → W p l e ({ frames := 0, cells := 0, slots := 0, locals := 0 } : Room) s m args below meth c H locs 0 0 (MQ below (mQ D H0 gV (fun r S1 k1 n1 => kc = k1 ∧ ns = n1 ∧ mK S1 = mK S ∧ CI x0 u tl rho S1 ∧ True)) args s 0 0 (mF H0)) (F0 m 12 ls []) := by
    intro fu
    induction fu with
    | zero => intro j Sa H locs ls h12_0 h12_1 h12_2 hfu; exact absurd hfu (by omega)
    | succ fu ih12 =>
      intro j Sa H locs ls h12_0 h12_1 h12_2 hfu hl hM
      have hK9 := h12_0
      have hI := h12_1
      have kh0 : mK Sa h0 = 3 := (congrFun (hK9) h0).trans kh0
      have kh1 : mK Sa h1 = 5 := (congrFun (hK9) h1).trans kh1
      have kh2 : mK Sa h2 = 5 := (congrFun (hK9) h2).trans kh2
      refine lv_iload_n hx hb dX2_begin_12 rfl (lv_at hl 3 rfl) ?_
      refine lv_bipush (v := 60) hx hb dX2_begin_13 (by decide) ?_
      refine lv_icmp_ge (tgt := 31) hx hb dX2_begin_15 (by decide) (fun c1 => ?_) (fun c1 => ?_)
      · have tc1 := leT c1
        exact r_retV C hr hlk hM (⟨rfl, rfl, hK9, hI, trivial⟩) dX2_begin_31
      · have tc1 := leF c1
        refine lv_aload_n hx hb dX2_begin_18 rfl (lv_at hl 0 rfl) ?_
        obtain ⟨q2, eq2, kq2, nq2⟩ := TI.nn hI.1 (ci := 2) (k := 2) kh0
        refine r_get (ci := 2) (k := 2) (v := .ref q2) C hM kh0 f_X2_15 (congrArg va_rf eq2) dX2_begin_19 ?_
        refine lv_iload_n hx hb dX2_begin_22 rfl (lv_at hl 3 rfl) ?_
        refine lv_iconst (v := 0) hx hb dX2_begin_23 (by decide) ?_
        refine r_zast C hM kq2 (inI (by omega) (by rw [nq2 (by decide)]; show _ < (60 : Int); omega)) dX2_begin_24 (fun H locs hM => ?_)
        have hM : mH D H0 (qI Sa q2 j.toNatClampNeg (vp_nar .boolean 0)) kc ns H locs := hM
        have hI := hI.fe (fEq.AI (S := Sa) (a := q2) (i := j.toNatClampNeg) (v := (vp_nar .boolean 0)))
        obtain ⟨x3, ex3⟩ : ∃ y : Int32, y = j + 1 := ⟨_, rfl⟩
        try (have tx3 := addI (a := j) (b := 1) (by omega) (by omega); rw [← ex3] at tx3)
        refine lv_iinc (v := x3) (lv' := [(3, .int x3), (0, .ref h0), (1, .ref h1), (2, .ref h2)]) hx hb dX2_begin_25 hl (k := 3) rfl (by rw [ex3]; rfl) (by decide) rfl (fun ls hl => ?_)
        refine lv_goto (tgt := 12) hx hb dX2_begin_28 (by decide) ?_
        exact ih12 x3 (qI Sa q2 j.toNatClampNeg (vp_nar .boolean 0)) _ _ _ (hK9) (hI) (by omega) (by omega) (lv_sub hl [1, 2, 3, 0] rfl) hM
  exact loop12 (((60 - (0 : Int32).toInt).toNat) + 1) 0 (pR (pR S 203 h0 (some h1)) 204 h0 (some h2)) _ _ _ (hK9) (hI) (by omega) (by omega) (lv_sub hl [1, 2, 3, 0] rfl) hM
set_option maxHeartbeats 4000000 in
set_option maxRecDepth 100000 in
theorem c_X2_measureForests (l : Launch) (D : gD) (H0 : Heap) (S : Mem) (kc ns : Nat) (h0 h1 h2 : Nat) {u : Nat} {tl : Int} {rho : Nat} (hI : CI x0 u tl rho S) (qf qt : Nat) (hu : u < 2000000000) (ef : mR S 203 h0 = some qf) (et : mR S 204 h0 = some qt) (kqf : mK S qf = 5) (kqt : mK S qt = 5) (kh0 : mK S h0 = 3) (kh1 : mK S h1 = 6) (kh2 : mK S h2 = 6) : Met l yX2_measureForests (wsU yX2_measureForests cX2_measureForests 14 none) ({ frames := 2, cells := 0, slots := 0, locals := 42 } : Room) (mP D H0 S kc ns [.ref h0, .ref h1, .ref h2]) (mQ D H0 gV (fun r S1 k1 n1 => kc = k1 ∧ ns = n1 ∧ fEq S S1 ∧ True)) 0 0 (mF H0) := by
  refine r_met (own := RX2) (by decide +kernel) rfl (Nat.le_of_ble_eq_true rfl) ?_
  intro p e s m args below meth c C hr hlk hnm H ls hl hM
  obtain ⟨hx, hb, hml, hown, hts, -, -⟩ := id C
  have hl : lv_has ls 14 [(0, .ref h0), (1, .ref h1), (2, .ref h2)] := hl
  have hI0 := hI
  have hF : fEq S S := fEq.rf
  have t_m1 : (-1 : Int32).toInt = -1 := by decide
  have t_0 : (0 : Int32).toInt = 0 := by decide
  have t_1 : (1 : Int32).toInt = 1 := by decide
  have t_3 : (3 : Int32).toInt = 3 := by decide
  have t_60 : (60 : Int32).toInt = 60 := by decide
  have t_61 : (61 : Int32).toInt = 61 := by decide
  refine lv_aload_n hx hb dX2_measureForests_0 rfl (lv_at hl 1 rfl) ?_
  refine r_getN (ci := 5) (k := 1) (v := .int (mI S 501 h1)) C hM kh1 f_X2_48 rfl dX2_measureForests_1 ?_
  refine lv_topi (fun x1 ex1 => ?_)
  have fx1 := NI.f501 hI.2 kh1
  rw [← ex1] at fx1
  refine lv_aload_n hx hb dX2_measureForests_4 rfl (lv_at hl 1 rfl) ?_
  refine r_getN (ci := 5) (k := 9) (v := .int (mI S 509 h1)) C hM kh1 f_X2_52 rfl dX2_measureForests_5 ?_
  refine lv_topi (fun x2 ex2 => ?_)
  have fx2 := NI.f509 hI.2 kh1
  rw [← ex2] at fx2
  refine lv_iadd hx hb dX2_measureForests_8 ?_
  refine lv_topi (fun x3 ex3 => ?_)
  try (have tx3 := addI (a := x1) (b := x2) (by omega) (by omega); rw [← ex3] at tx3)
  refine lv_iconst (v := 1) hx hb dX2_measureForests_9 (by decide) ?_
  refine lv_iadd hx hb dX2_measureForests_10 ?_
  refine lv_topi (fun x4 ex4 => ?_)
  try (have tx4 := addI (a := x3) (b := 1) (by omega) (by omega); rw [← ex4] at tx4)
  refine lv_istore_n (lv' := [(3, .int x4), (0, .ref h0), (1, .ref h1), (2, .ref h2)]) hx hb dX2_measureForests_11 rfl hl (by decide) rfl (fun ls hl => ?_)
  refine lv_aload_n hx hb dX2_measureForests_12 rfl (lv_at hl 3 rfl) ?_
  refine r_getN (ci := 5) (k := 1) (v := .int (mI S 501 h2)) C hM kh2 f_X2_48 rfl dX2_measureForests_13 ?_
  refine lv_topi (fun x5 ex5 => ?_)
  have fx5 := NI.f501 hI.2 kh2
  rw [← ex5] at fx5
  refine lv_aload_n hx hb dX2_measureForests_16 rfl (lv_at hl 3 rfl) ?_
  refine r_getN (ci := 5) (k := 9) (v := .int (mI S 509 h2)) C hM kh2 f_X2_52 rfl dX2_measureForests_17 ?_
  refine lv_topi (fun x6 ex6 => ?_)
  have fx6 := NI.f509 hI.2 kh2
  rw [← ex6] at fx6
  refine lv_iadd hx hb dX2_measureForests_20 ?_
  refine lv_topi (fun x7 ex7 => ?_)
  try (have tx7 := addI (a := x5) (b := x6) (by omega) (by omega); rw [← ex7] at tx7)
  refine lv_iconst (v := 1) hx hb dX2_measureForests_21 (by decide) ?_
  refine lv_iadd hx hb dX2_measureForests_22 ?_
  refine lv_topi (fun x8 ex8 => ?_)
  try (have tx8 := addI (a := x7) (b := 1) (by omega) (by omega); rw [← ex8] at tx8)
  refine lv_istore (lv' := [(4, .int x8), (3, .int x4), (0, .ref h0), (1, .ref h1), (2, .ref h2)]) hx hb dX2_measureForests_23 hl (by decide) rfl (fun ls hl => ?_)
  refine lv_iload_n hx hb dX2_measureForests_25 rfl (lv_at hl 1 rfl) ?_
  refine lv_aload_n hx hb dX2_measureForests_26 rfl (lv_at hl 2 rfl) ?_
  refine r_get (ci := 2) (k := 3) (v := .ref qf) C hM kh0 f_X2_19 (congrArg va_rf (ef)) dX2_measureForests_27 ?_
  refine r_getN (ci := 4) (k := 1) (v := .int (mI S 401 qf)) C hM kqf f_X2_55 rfl dX2_measureForests_30 ?_
  refine lv_topi (fun x9 ex9 => ?_)
  have fx9 := NI.f401 hI.2 kqf
  rw [← ex9] at fx9
  refine lv_icmp_gt (tgt := 48) hx hb dX2_measureForests_33 (by decide) (fun c10 => ?_) (fun c10 => ?_)
  · have tc10 := ltT c10
    exact r_retV C hr hlk hM (⟨rfl, rfl, hF, trivial⟩) dX2_measureForests_48
  · have tc10 := ltF c10
    refine lv_iload hx hb dX2_measureForests_36 (lv_at hl 0 rfl) ?_
    refine lv_aload_n hx hb dX2_measureForests_38 rfl (lv_at hl 2 rfl) ?_
    refine r_get (ci := 2) (k := 4) (v := .ref qt) C hM kh0 f_X2_23 (congrArg va_rf (et)) dX2_measureForests_39 ?_
    refine r_getN (ci := 4) (k := 1) (v := .int (mI S 401 qt)) C hM kqt f_X2_55 rfl dX2_measureForests_42 ?_
    refine lv_topi (fun x11 ex11 => ?_)
    have fx11 := NI.f401 hI.2 kqt
    rw [← ex11] at fx11
    refine lv_icmp_le (tgt := 49) hx hb dX2_measureForests_45 (by decide) (fun c12 => ?_) (fun c12 => ?_)
    · have tc12 := leT c12
      refine lv_aload_n hx hb dX2_measureForests_49 rfl (lv_at hl 2 rfl) ?_
      obtain ⟨q13, eq13, kq13, nq13⟩ := TI.nn hI.1 (ci := 2) (k := 0) kh0
      refine r_get (ci := 2) (k := 0) (v := .ref q13) C hM kh0 f_X2_26 (congrArg va_rf eq13) dX2_measureForests_50 ?_
      refine lv_iload_n hx hb dX2_measureForests_53 rfl (lv_at hl 1 rfl) ?_
      refine lv_bipush (v := 61) hx hb dX2_measureForests_54 (by decide) ?_
      refine lv_imul hx hb dX2_measureForests_56 ?_
      refine lv_topi (fun x14 ex14 => ?_)
      try (have tx14 := mulC (a := x4) (k := 61) (n := 61) (by decide) (by omega) (by omega); rw [← ex14] at tx14)
      refine lv_iload hx hb dX2_measureForests_57 (lv_at hl 0 rfl) ?_
      refine lv_iadd hx hb dX2_measureForests_59 ?_
      refine lv_topi (fun x15 ex15 => ?_)
      try (have tx15 := addI (a := x14) (b := x8) (by omega) (by omega); rw [← ex15] at tx15)
      refine lv_iconst (v := 0) hx hb dX2_measureForests_60 (by decide) ?_
      refine r_iast C hM kq13 (inI (by omega) (by rw [nq13 (by decide)]; show _ < (3721 : Int); omega)) dX2_measureForests_61 (fun H locs hM => ?_)
      have hM : mH D H0 (qI S q13 x15.toNatClampNeg 0) kc ns H locs := hM
      have hI := hI.fe (fEq.AI (S := S) (a := q13) (i := x15.toNatClampNeg) (v := 0))
      have hF := hF.trans (fEq.AI (S := S) (a := q13) (i := x15.toNatClampNeg) (v := 0))
      refine lv_iload hx hb dX2_measureForests_62 (lv_at hl 0 rfl) ?_
      refine lv_iconst (v := 1) hx hb dX2_measureForests_64 (by decide) ?_
      refine lv_isub hx hb dX2_measureForests_65 ?_
      refine lv_topi (fun x16 ex16 => ?_)
      try (have tx16 := subI (a := x8) (b := 1) (by omega) (by omega); rw [← ex16] at tx16)
      refine lv_istore (lv' := [(5, .int x16), (4, .int x8), (3, .int x4), (0, .ref h0), (1, .ref h1), (2, .ref h2)]) hx hb dX2_measureForests_66 hl (by decide) rfl (fun ls hl => ?_)
      have hFa68 := hF
      have loop68 : ∀ (fu : Nat) (j : Int32) (Sa : Mem) (H : Heap) (locs : List Loc) (ls : Array Slot), (fEq S Sa) → (-1 ≤ j.toInt ∧ j.toInt < x8.toInt) → (j.toInt + 1).toNat < fu → lv_has ls 14 [(0, .ref h0), (1, .ref h1), (2, .ref h2), (3, .int x4), (4, .int x8), (5, .int j)] → mH D H0 Sa kc ns H locs → W p l e ({ frames := 2, cells := 0, slots := 0, locals := 42 } : Room) s m args below meth c H locs 0 0 (MQ below (mQ D H0 gV (fun r S1 k1 n1 => kc = k1 ∧ ns = n1 ∧ fEq S S1 ∧ True)) args s 0 0 (mF H0)) (F0 m 68 ls []) := by
        intro fu
        induction fu with
        | zero => intro j Sa H locs ls h68_0 h68_1 hfu; exact absurd hfu (by omega)
        | succ fu ih68 =>
          intro j Sa H locs ls h68_0 h68_1 hfu hl hM
          have hF := h68_0
          have hI := hI0.fe hF
          have kh0 : mK Sa h0 = 3 := (congrFun (hF.1.trans hFa68.1.symm) h0).trans kh0
          have kh1 : mK Sa h1 = 6 := (congrFun (hF.1.trans hFa68.1.symm) h1).trans kh1
          have kh2 : mK Sa h2 = 6 := (congrFun (hF.1.trans hFa68.1.symm) h2).trans kh2
          have kqf : mK Sa qf = 5 := (congrFun (hF.1.trans hFa68.1.symm) qf).trans kqf
          have kqt : mK Sa qt = 5 := (congrFun (hF.1.trans hFa68.1.symm) qt).trans kqt
          have v17 : mR Sa 203 h0 = some qf := ((congrFun (congrFun hF.2.1 203) h0).trans (congrFun (congrFun hFa68.2.1 203) h0).symm).trans (ef)
          have v18 : mR Sa 204 h0 = some qt := ((congrFun (congrFun hF.2.1 204) h0).trans (congrFun (congrFun hFa68.2.1 204) h0).symm).trans (et)
          refine lv_iload hx hb dX2_measureForests_68 (lv_at hl 5 rfl) ?_
          refine lv_aload_n hx hb dX2_measureForests_70 rfl (lv_at hl 2 rfl) ?_
          refine r_getN (ci := 5) (k := 1) (v := .int (mI Sa 501 h2)) C hM kh2 f_X2_48 rfl dX2_measureForests_71 ?_
          refine lv_topi (fun x19 ex19 => ?_)
          have fx19 := NI.f501 hI.2 kh2
          rw [← ex19] at fx19
          refine lv_icmp_lt (tgt := 102) hx hb dX2_measureForests_74 (by decide) (fun c20 => ?_) (fun c20 => ?_)
          · have tc20 := ltT c20
            refine lv_iload_n hx hb dX2_measureForests_102 rfl (lv_at hl 3 rfl) ?_
            refine lv_iconst (v := 1) hx hb dX2_measureForests_103 (by decide) ?_
            refine lv_isub hx hb dX2_measureForests_104 ?_
            refine lv_topi (fun x21 ex21 => ?_)
            try (have tx21 := subI (a := x4) (b := 1) (by omega) (by omega); rw [← ex21] at tx21)
            refine lv_istore (lv' := [(5, .int x21), (0, .ref h0), (1, .ref h1), (2, .ref h2), (3, .int x4), (4, .int x8)]) hx hb dX2_measureForests_105 hl (by decide) rfl (fun ls hl => ?_)
            have hFa107 := hF
            have loop107 : ∀ (fu : Nat) (i : Int32) (Sb : Mem) (H : Heap) (locs : List Loc) (ls : Array Slot), (fEq S Sb) → (-1 ≤ i.toInt ∧ i.toInt < x4.toInt) → (i.toInt + 1).toNat < fu → lv_has ls 14 [(0, .ref h0), (1, .ref h1), (2, .ref h2), (3, .int x4), (4, .int x8), (5, .int i)] → mH D H0 Sb kc ns H locs → W p l e ({ frames := 2, cells := 0, slots := 0, locals := 42 } : Room) s m args below meth c H locs 0 0 (MQ below (mQ D H0 gV (fun r S1 k1 n1 => kc = k1 ∧ ns = n1 ∧ fEq S S1 ∧ True)) args s 0 0 (mF H0)) (F0 m 107 ls []) := by
              intro fu
              induction fu with
              | zero => intro i Sb H locs ls h107_0 h107_1 hfu; exact absurd hfu (by omega)
              | succ fu ih107 =>
                intro i Sb H locs ls h107_0 h107_1 hfu hl hM
                have hF := h107_0
                have hI := hI0.fe hF
                have kh0 : mK Sb h0 = 3 := (congrFun (hF.1.trans hFa107.1.symm) h0).trans kh0
                have kh1 : mK Sb h1 = 6 := (congrFun (hF.1.trans hFa107.1.symm) h1).trans kh1
                have kh2 : mK Sb h2 = 6 := (congrFun (hF.1.trans hFa107.1.symm) h2).trans kh2
                have kqf : mK Sb qf = 5 := (congrFun (hF.1.trans hFa107.1.symm) qf).trans kqf
                have kqt : mK Sb qt = 5 := (congrFun (hF.1.trans hFa107.1.symm) qt).trans kqt
                have v22 : mR Sb 203 h0 = some qf := ((congrFun (congrFun hF.2.1 203) h0).trans (congrFun (congrFun hFa107.2.1 203) h0).symm).trans (v17)
                have v23 : mR Sb 204 h0 = some qt := ((congrFun (congrFun hF.2.1 204) h0).trans (congrFun (congrFun hFa107.2.1 204) h0).symm).trans (v18)
                refine lv_iload hx hb dX2_measureForests_107 (lv_at hl 5 rfl) ?_
                refine lv_aload_n hx hb dX2_measureForests_109 rfl (lv_at hl 1 rfl) ?_
                refine r_getN (ci := 5) (k := 1) (v := .int (mI Sb 501 h1)) C hM kh1 f_X2_48 rfl dX2_measureForests_110 ?_
                refine lv_topi (fun x24 ex24 => ?_)
                have fx24 := NI.f501 hI.2 kh1
                rw [← ex24] at fx24
                refine lv_icmp_lt (tgt := 386) hx hb dX2_measureForests_113 (by decide) (fun c25 => ?_) (fun c25 => ?_)
                · have tc25 := ltT c25
                  exact r_retV C hr hlk hM (⟨rfl, rfl, hF, trivial⟩) dX2_measureForests_386
                · have tc25 := ltF c25
                  refine lv_aload_n hx hb dX2_measureForests_116 rfl (lv_at hl 0 rfl) ?_
                  obtain ⟨q26, eq26, kq26, nq26⟩ := TI.nn hI.1 (ci := 2) (k := 0) kh0
                  refine r_get (ci := 2) (k := 0) (v := .ref q26) C hM kh0 f_X2_26 (congrArg va_rf eq26) dX2_measureForests_117 ?_
                  refine lv_iload hx hb dX2_measureForests_120 (lv_at hl 5 rfl) ?_
                  refine lv_bipush (v := 61) hx hb dX2_measureForests_122 (by decide) ?_
                  refine lv_imul hx hb dX2_measureForests_124 ?_
                  refine lv_topi (fun x27 ex27 => ?_)
                  try (have tx27 := mulC (a := i) (k := 61) (n := 61) (by decide) (by omega) (by omega); rw [← ex27] at tx27)
                  refine lv_iload hx hb dX2_measureForests_125 (lv_at hl 4 rfl) ?_
                  refine lv_iadd hx hb dX2_measureForests_127 ?_
                  refine lv_topi (fun x28 ex28 => ?_)
                  try (have tx28 := addI (a := x27) (b := x8) (by omega) (by omega); rw [← ex28] at tx28)
                  refine lv_iload_n hx hb dX2_measureForests_128 rfl (lv_at hl 3 rfl) ?_
                  refine lv_iload hx hb dX2_measureForests_129 (lv_at hl 5 rfl) ?_
                  refine lv_isub hx hb dX2_measureForests_131 ?_
                  refine lv_topi (fun x29 ex29 => ?_)
                  try (have tx29 := subI (a := x4) (b := i) (by omega) (by omega); rw [← ex29] at tx29)
                  refine lv_iconst (v := 3) hx hb dX2_measureForests_132 (by decide) ?_
                  refine lv_imul hx hb dX2_measureForests_133 ?_
                  refine lv_topi (fun x30 ex30 => ?_)
                  try (have tx30 := mulC (a := x29) (k := 3) (n := 3) (by decide) (by omega) (by omega); rw [← ex30] at tx30)
                  refine r_iast C hM kq26 (inI (by omega) (by rw [nq26 (by decide)]; show _ < (3721 : Int); omega)) dX2_measureForests_134 (fun H locs hM => ?_)
                  have hM : mH D H0 (qI Sb q26 x28.toNatClampNeg x30) kc ns H locs := hM
                  have hI := hI.fe (fEq.AI (S := Sb) (a := q26) (i := x28.toNatClampNeg) (v := x30))
                  have hF := hF.trans (fEq.AI (S := Sb) (a := q26) (i := x28.toNatClampNeg) (v := x30))
                  refine lv_aload_n hx hb dX2_measureForests_135 rfl (lv_at hl 0 rfl) ?_
                  refine r_get (ci := 2) (k := 3) (v := .ref qf) C hM kh0 f_X2_19 (congrArg va_rf (v22)) dX2_measureForests_136 ?_
                  refine lv_iload hx hb dX2_measureForests_139 (lv_at hl 5 rfl) ?_
                  refine r_VN (As := [.int i]) (rest := []) (ci := 4) C hM (c_X4_at l D H0 (qI Sb q26 x28.toNatClampNeg x30) kc ns qf i hI id kqf) i_X4_at m_X2_60 kqf rfl rfl rfl hl.1 rfl (Nat.le_of_ble_eq_true rfl) ⟨by decide, by decide⟩ ⟨by decide, by decide⟩ dX2_measureForests_141 (fun r34 S31 k32 n33 H locs p35 hM => ?_)
                  obtain ⟨rfl, rfl, rfl, kr34⟩ := p35
                  refine W.eq (g2 := F0 m 144 ls [va_rf r34]) rfl ?_
                  refine lv_astoreQ (lv' := [(6, va_rf r34), (0, .ref h0), (1, .ref h1), (2, .ref h2), (3, .int x4), (4, .int x8), (5, .int i)]) hx hb dX2_measureForests_144 hl (by decide) rfl (fun ls hl => ?_)
                  refine lv_aloadQ hx hb dX2_measureForests_146 (lv_at hl 0 rfl) ?_
                  cases r34 with
                  | none =>
                    refine lv_ifnullN (tgt := 163) hx hb dX2_measureForests_148 (by decide) ?_
                    exact r_retV C hr hlk hM (⟨rfl, rfl, hF, trivial⟩) dX2_measureForests_163
                  | some q36 =>
                    have kq36 : mK _ q36 = 6 := kr34 q36 rfl
                    refine lv_ifnull hx hb dX2_measureForests_148 ?_
                    refine lv_iload hx hb dX2_measureForests_151 (lv_at hl 6 rfl) ?_
                    refine lv_aload hx hb dX2_measureForests_153 (lv_at hl 0 rfl) ?_
                    refine r_getN (ci := 5) (k := 9) (v := .int (mI (qI Sb q26 x28.toNatClampNeg x30) 509 q36)) C hM kq36 f_X2_52 rfl dX2_measureForests_155 ?_
                    refine lv_topi (fun x37 ex37 => ?_)
                    have fx37 := NI.f509 hI.2 kq36
                    rw [← ex37] at fx37
                    refine lv_iadd hx hb dX2_measureForests_158 ?_
                    refine lv_topi (fun x38 ex38 => ?_)
                    try (have tx38 := addI (a := i) (b := x37) (by omega) (by omega); rw [← ex38] at tx38)
                    refine lv_iload_n hx hb dX2_measureForests_159 rfl (lv_at hl 4 rfl) ?_
                    refine lv_icmp_lt (tgt := 164) hx hb dX2_measureForests_160 (by decide) (fun c39 => ?_) (fun c39 => ?_)
                    · have tc39 := ltT c39
                      refine lv_iload hx hb dX2_measureForests_164 (lv_at hl 6 rfl) ?_
                      refine lv_aload hx hb dX2_measureForests_166 (lv_at hl 0 rfl) ?_
                      refine r_getN (ci := 5) (k := 9) (v := .int (mI (qI Sb q26 x28.toNatClampNeg x30) 509 q36)) C hM kq36 f_X2_52 rfl dX2_measureForests_168 ?_
                      refine lv_topi (fun x40 ex40 => ?_)
                      have fx40 := NI.f509 hI.2 kq36
                      rw [← ex40] at fx40
                      have gx40 : x40 = x37 := ex40.trans (ex37.symm)
                      have hx40 : x40.toInt = x37.toInt := by rw [gx40]
                      refine lv_iadd hx hb dX2_measureForests_171 ?_
                      refine lv_topi (fun x41 ex41 => ?_)
                      try (have tx41 := addI (a := i) (b := x40) (by omega) (by omega); rw [← ex41] at tx41)
                      refine lv_iconst (v := 1) hx hb dX2_measureForests_172 (by decide) ?_
                      refine lv_iadd hx hb dX2_measureForests_173 ?_
                      refine lv_topi (fun x42 ex42 => ?_)
                      try (have tx42 := addI (a := x41) (b := 1) (by omega) (by omega); rw [← ex42] at tx42)
                      refine lv_istore (lv' := [(7, .int x42), (6, .ref q36), (0, .ref h0), (1, .ref h1), (2, .ref h2), (3, .int x4), (4, .int x8), (5, .int i)]) hx hb dX2_measureForests_174 hl (by decide) rfl (fun ls hl => ?_)
                      refine lv_iload hx hb dX2_measureForests_176 (lv_at hl 6 rfl) ?_
                      refine lv_iconst (v := 1) hx hb dX2_measureForests_178 (by decide) ?_
                      refine lv_isub hx hb dX2_measureForests_179 ?_
                      refine lv_topi (fun x43 ex43 => ?_)
                      try (have tx43 := subI (a := x8) (b := 1) (by omega) (by omega); rw [← ex43] at tx43)
                      refine lv_istore (lv' := [(8, .int x43), (7, .int x42), (6, .ref q36), (0, .ref h0), (1, .ref h1), (2, .ref h2), (3, .int x4), (4, .int x8), (5, .int i)]) hx hb dX2_measureForests_180 hl (by decide) rfl (fun ls hl => ?_)
                      have hFa182 := hF
                      have loop182 : ∀ (fu : Nat) (j8 : Int32) (Sc : Mem) (H : Heap) (locs : List Loc) (ls : Array Slot), (fEq S Sc) → (-1 ≤ j8.toInt ∧ j8.toInt < x8.toInt) → (j8.toInt + 1).toNat < fu → lv_has ls 14 [(0, .ref h0), (1, .ref h1), (2, .ref h2), (3, .int x4), (4, .int x8), (5, .int i), (6, .ref q36), (7, .int x42), (8, .int j8)] → mH D H0 Sc kc ns H locs → W p l e ({ frames := 2, cells := 0, slots := 0, locals := 42 } : Room) s m args below meth c H locs 0 0 (MQ below (mQ D H0 gV (fun r S1 k1 n1 => kc = k1 ∧ ns = n1 ∧ fEq S S1 ∧ True)) args s 0 0 (mF H0)) (F0 m 182 ls []) := by
                        intro fu
                        induction fu with
                        | zero => intro j8 Sc H locs ls h182_0 h182_1 hfu; exact absurd hfu (by omega)
                        | succ fu ih182 =>
                          intro j8 Sc H locs ls h182_0 h182_1 hfu hl hM
                          have hF := h182_0
                          have hI := hI0.fe hF
                          have kh0 : mK Sc h0 = 3 := (congrFun (hF.1.trans hFa182.1.symm) h0).trans kh0
                          have kh1 : mK Sc h1 = 6 := (congrFun (hF.1.trans hFa182.1.symm) h1).trans kh1
                          have kh2 : mK Sc h2 = 6 := (congrFun (hF.1.trans hFa182.1.symm) h2).trans kh2
                          have kq36 : mK Sc q36 = 6 := (congrFun (hF.1.trans hFa182.1.symm) q36).trans kq36
                          have kqf : mK Sc qf = 5 := (congrFun (hF.1.trans hFa182.1.symm) qf).trans kqf
                          have kqt : mK Sc qt = 5 := (congrFun (hF.1.trans hFa182.1.symm) qt).trans kqt
                          have v44 : mR Sc 203 h0 = some qf := ((congrFun (congrFun hF.2.1 203) h0).trans (congrFun (congrFun hFa182.2.1 203) h0).symm).trans (v22)
                          have v45 : mR Sc 204 h0 = some qt := ((congrFun (congrFun hF.2.1 204) h0).trans (congrFun (congrFun hFa182.2.1 204) h0).symm).trans (v23)
                          refine lv_iload hx hb dX2_measureForests_182 (lv_at hl 8 rfl) ?_
                          refine lv_aload_n hx hb dX2_measureForests_184 rfl (lv_at hl 2 rfl) ?_
                          refine r_getN (ci := 5) (k := 1) (v := .int (mI Sc 501 h2)) C hM kh2 f_X2_48 rfl dX2_measureForests_185 ?_
                          refine lv_topi (fun x46 ex46 => ?_)
                          have fx46 := NI.f501 hI.2 kh2
                          rw [← ex46] at fx46
                          refine lv_icmp_lt (tgt := 380) hx hb dX2_measureForests_188 (by decide) (fun c47 => ?_) (fun c47 => ?_)
                          · have tc47 := ltT c47
                            obtain ⟨x48, ex48⟩ : ∃ y : Int32, y = i + (-1) := ⟨_, rfl⟩
                            try (have tx48 := addI (a := i) (b := (-1)) (by omega) (by omega); rw [← ex48] at tx48)
                            refine lv_iinc (v := x48) (lv' := [(5, .int x48), (0, .ref h0), (1, .ref h1), (2, .ref h2), (3, .int x4), (4, .int x8), (6, .ref q36), (7, .int x42), (8, .int j8)]) hx hb dX2_measureForests_380 hl (k := 5) rfl (by rw [ex48]; rfl) (by decide) rfl (fun ls hl => ?_)
                            refine lv_goto (tgt := 107) hx hb dX2_measureForests_383 (by decide) ?_
                            exact ih107 x48 Sc _ _ _ (hF) (by omega) (by omega) (lv_sub hl [1, 2, 3, 4, 5, 0] rfl) hM
                          · have tc47 := ltF c47
                            refine lv_aload_n hx hb dX2_measureForests_191 rfl (lv_at hl 0 rfl) ?_
                            refine r_get (ci := 2) (k := 4) (v := .ref qt) C hM kh0 f_X2_23 (congrArg va_rf (v45)) dX2_measureForests_192 ?_
                            refine lv_iload hx hb dX2_measureForests_195 (lv_at hl 8 rfl) ?_
                            refine r_VN (As := [.int j8]) (rest := []) (ci := 4) C hM (c_X4_at l D H0 Sc kc ns qt j8 hI id kqt) i_X4_at m_X2_60 kqt rfl rfl rfl hl.1 rfl (Nat.le_of_ble_eq_true rfl) ⟨by decide, by decide⟩ ⟨by decide, by decide⟩ dX2_measureForests_197 (fun r52 S49 k50 n51 H locs p53 hM => ?_)
                            obtain ⟨rfl, rfl, rfl, kr52⟩ := p53
                            refine W.eq (g2 := F0 m 200 ls [va_rf r52]) rfl ?_
                            refine lv_astoreQ (lv' := [(9, va_rf r52), (0, .ref h0), (1, .ref h1), (2, .ref h2), (3, .int x4), (4, .int x8), (5, .int i), (6, .ref q36), (7, .int x42), (8, .int j8)]) hx hb dX2_measureForests_200 hl (by decide) rfl (fun ls hl => ?_)
                            refine lv_aloadQ hx hb dX2_measureForests_202 (lv_at hl 0 rfl) ?_
                            cases r52 with
                            | none =>
                              refine lv_ifnullN (tgt := 220) hx hb dX2_measureForests_204 (by decide) ?_
                              exact r_retV C hr hlk hM (⟨rfl, rfl, hF, trivial⟩) dX2_measureForests_220
                            | some q54 =>
                              have kq54 : mK Sc q54 = 6 := kr52 q54 rfl
                              refine lv_ifnull hx hb dX2_measureForests_204 ?_
                              refine lv_iload hx hb dX2_measureForests_207 (lv_at hl 9 rfl) ?_
                              refine lv_aload hx hb dX2_measureForests_209 (lv_at hl 0 rfl) ?_
                              refine r_getN (ci := 5) (k := 9) (v := .int (mI Sc 509 q54)) C hM kq54 f_X2_52 rfl dX2_measureForests_211 ?_
                              refine lv_topi (fun x55 ex55 => ?_)
                              have fx55 := NI.f509 hI.2 kq54
                              rw [← ex55] at fx55
                              refine lv_iadd hx hb dX2_measureForests_214 ?_
                              refine lv_topi (fun x56 ex56 => ?_)
                              try (have tx56 := addI (a := j8) (b := x55) (by omega) (by omega); rw [← ex56] at tx56)
                              refine lv_iload hx hb dX2_measureForests_215 (lv_at hl 5 rfl) ?_
                              refine lv_icmp_lt (tgt := 221) hx hb dX2_measureForests_217 (by decide) (fun c57 => ?_) (fun c57 => ?_)
                              · have tc57 := ltT c57
                                refine lv_iload hx hb dX2_measureForests_221 (lv_at hl 9 rfl) ?_
                                refine lv_aload hx hb dX2_measureForests_223 (lv_at hl 0 rfl) ?_
                                refine r_getN (ci := 5) (k := 9) (v := .int (mI Sc 509 q54)) C hM kq54 f_X2_52 rfl dX2_measureForests_225 ?_
                                refine lv_topi (fun x58 ex58 => ?_)
                                have fx58 := NI.f509 hI.2 kq54
                                rw [← ex58] at fx58
                                have gx58 : x58 = x55 := ex58.trans (ex55.symm)
                                have hx58 : x58.toInt = x55.toInt := by rw [gx58]
                                refine lv_iadd hx hb dX2_measureForests_228 ?_
                                refine lv_topi (fun x59 ex59 => ?_)
                                try (have tx59 := addI (a := j8) (b := x58) (by omega) (by omega); rw [← ex59] at tx59)
                                refine lv_iconst (v := 1) hx hb dX2_measureForests_229 (by decide) ?_
                                refine lv_iadd hx hb dX2_measureForests_230 ?_
                                refine lv_topi (fun x60 ex60 => ?_)
                                try (have tx60 := addI (a := x59) (b := 1) (by omega) (by omega); rw [← ex60] at tx60)
                                refine lv_istore (lv' := [(10, .int x60), (9, .ref q54), (0, .ref h0), (1, .ref h1), (2, .ref h2), (3, .int x4), (4, .int x8), (5, .int i), (6, .ref q36), (7, .int x42), (8, .int j8)]) hx hb dX2_measureForests_231 hl (by decide) rfl (fun ls hl => ?_)
                                refine lv_iload hx hb dX2_measureForests_233 (lv_at hl 7 rfl) ?_
                                refine lv_bipush (v := 61) hx hb dX2_measureForests_235 (by decide) ?_
                                refine lv_imul hx hb dX2_measureForests_237 ?_
                                refine lv_topi (fun x61 ex61 => ?_)
                                try (have tx61 := mulC (a := i) (k := 61) (n := 61) (by decide) (by omega) (by omega); rw [← ex61] at tx61)
                                refine lv_iload hx hb dX2_measureForests_238 (lv_at hl 10 rfl) ?_
                                refine lv_iadd hx hb dX2_measureForests_240 ?_
                                refine lv_topi (fun x62 ex62 => ?_)
                                try (have tx62 := addI (a := x61) (b := j8) (by omega) (by omega); rw [← ex62] at tx62)
                                refine lv_istore (lv' := [(11, .int x62), (10, .int x60), (9, .ref q54), (0, .ref h0), (1, .ref h1), (2, .ref h2), (3, .int x4), (4, .int x8), (5, .int i), (6, .ref q36), (7, .int x42), (8, .int j8)]) hx hb dX2_measureForests_241 hl (by decide) rfl (fun ls hl => ?_)
                                refine lv_aload_n hx hb dX2_measureForests_243 rfl (lv_at hl 3 rfl) ?_
                                obtain ⟨q63, eq63, kq63, nq63⟩ := TI.nn hI.1 (ci := 2) (k := 0) kh0
                                refine r_get (ci := 2) (k := 0) (v := .ref q63) C hM kh0 f_X2_26 (congrArg va_rf eq63) dX2_measureForests_244 ?_
                                refine lv_iload hx hb dX2_measureForests_247 (lv_at hl 0 rfl) ?_
                                refine lv_bipush (v := 61) hx hb dX2_measureForests_249 (by decide) ?_
                                refine lv_iadd hx hb dX2_measureForests_251 ?_
                                refine lv_topi (fun x64 ex64 => ?_)
                                try (have tx64 := addI (a := x62) (b := 61) (by omega) (by omega); rw [← ex64] at tx64)
                                refine r_iald C hM kq63 (inI (by omega) (by rw [nq63 (by decide)]; show _ < (3721 : Int); omega)) dX2_measureForests_252 ?_
                                refine lv_topi (fun x65 ex65 => ?_)
                                refine lv_aload_n hx hb dX2_measureForests_253 rfl (lv_at hl 3 rfl) ?_
                                refine r_get (ci := 2) (k := 0) (v := .ref q63) C hM kh0 f_X2_26 (congrArg va_rf (eq63)) dX2_measureForests_254 ?_
                                refine lv_iload hx hb dX2_measureForests_257 (lv_at hl 0 rfl) ?_
                                refine lv_iconst (v := 1) hx hb dX2_measureForests_259 (by decide) ?_
                                refine lv_iadd hx hb dX2_measureForests_260 ?_
                                refine lv_topi (fun x66 ex66 => ?_)
                                try (have tx66 := addI (a := x62) (b := 1) (by omega) (by omega); rw [← ex66] at tx66)
                                refine r_iald C hM kq63 (inI (by omega) (by rw [nq63 (by decide)]; show _ < (3721 : Int); omega)) dX2_measureForests_261 ?_
                                refine lv_topi (fun x67 ex67 => ?_)
                                refine va_mmin hx hb (hml.trans hl.1.symm) hown (hts _ m_X2_72) (hts _ i_J9_min_7cf53.2) (hts _ i_J9_min_7cf53.1.2.1) (hts _ i_J9_min_7cf53.1.1) (Nat.le_of_ble_eq_true rfl) (Nat.le_of_ble_eq_true rfl) (by decide) (by decide) dX2_measureForests_262 ?_
                                refine lv_topi (fun x68 ex68 => ?_)
                                refine lv_iconst (v := 3) hx hb dX2_measureForests_265 (by decide) ?_
                                refine lv_iadd hx hb dX2_measureForests_266 ?_
                                refine lv_topi (fun x69 ex69 => ?_)
                                try (have tx69 := addI (a := x68) (b := 3) (by omega) (by omega); rw [← ex69] at tx69)
                                refine lv_istore (lv' := [(12, .int x69), (11, .int x62), (10, .int x60), (9, .ref q54), (0, .ref h0), (1, .ref h1), (2, .ref h2), (3, .int x4), (4, .int x8), (5, .int i), (6, .ref q36), (7, .int x42), (8, .int j8)]) hx hb dX2_measureForests_267 hl (by decide) rfl (fun ls hl => ?_)
                                refine lv_iload hx hb dX2_measureForests_269 (lv_at hl 11 rfl) ?_
                                refine lv_iload_n hx hb dX2_measureForests_271 rfl (lv_at hl 7 rfl) ?_
                                refine lv_icmp_ne (tgt := 327) hx hb dX2_measureForests_272 (by decide) (fun c70 => ?_) (fun c70 => ?_)
                                · have tc70 := eqF c70
                                  refine lv_aload_n hx hb dX2_measureForests_327 rfl (lv_at hl 4 rfl) ?_
                                  refine r_get (ci := 2) (k := 0) (v := .ref q63) C hM kh0 f_X2_26 (congrArg va_rf (eq63)) dX2_measureForests_328 ?_
                                  refine lv_iload hx hb dX2_measureForests_331 (lv_at hl 11 rfl) ?_
                                  refine lv_bipush (v := 61) hx hb dX2_measureForests_333 (by decide) ?_
                                  refine lv_imul hx hb dX2_measureForests_335 ?_
                                  refine lv_topi (fun x71 ex71 => ?_)
                                  try (have tx71 := mulC (a := x42) (k := 61) (n := 61) (by decide) (by omega) (by omega); rw [← ex71] at tx71)
                                  refine lv_iload hx hb dX2_measureForests_336 (lv_at hl 2 rfl) ?_
                                  refine lv_iadd hx hb dX2_measureForests_338 ?_
                                  refine lv_topi (fun x72 ex72 => ?_)
                                  try (have tx72 := addI (a := x71) (b := x60) (by omega) (by omega); rw [← ex72] at tx72)
                                  refine r_iald C hM kq63 (inI (by omega) (by rw [nq63 (by decide)]; show _ < (3721 : Int); omega)) dX2_measureForests_339 ?_
                                  refine lv_topi (fun x73 ex73 => ?_)
                                  refine lv_aload_n hx hb dX2_measureForests_340 rfl (lv_at hl 4 rfl) ?_
                                  obtain ⟨q74, eq74, kq74, nq74⟩ := TI.nn hI.1 (ci := 2) (k := 1) kh0
                                  refine r_get (ci := 2) (k := 1) (v := .ref q74) C hM kh0 f_X2_9 (congrArg va_rf eq74) dX2_measureForests_341 ?_
                                  refine lv_iload hx hb dX2_measureForests_344 (lv_at hl 9 rfl) ?_
                                  refine lv_bipush (v := 60) hx hb dX2_measureForests_346 (by decide) ?_
                                  refine lv_imul hx hb dX2_measureForests_348 ?_
                                  refine lv_topi (fun x75 ex75 => ?_)
                                  try (have tx75 := mulC (a := i) (k := 60) (n := 60) (by decide) (by omega) (by omega); rw [← ex75] at tx75)
                                  refine lv_iload hx hb dX2_measureForests_349 (lv_at hl 12 rfl) ?_
                                  refine lv_iadd hx hb dX2_measureForests_351 ?_
                                  refine lv_topi (fun x76 ex76 => ?_)
                                  try (have tx76 := addI (a := x75) (b := j8) (by omega) (by omega); rw [← ex76] at tx76)
                                  refine r_iald C hM kq74 (inI (by omega) (by rw [nq74 (by decide)]; show _ < (3600 : Int); omega)) dX2_measureForests_352 ?_
                                  refine lv_topi (fun x77 ex77 => ?_)
                                  refine lv_iadd hx hb dX2_measureForests_353 ?_
                                  refine lv_topi (fun x78 ex78 => ?_)
                                  try (have tx78 := addI (a := x73) (b := x77) (by omega) (by omega); rw [← ex78] at tx78)
                                  refine lv_istore (lv' := [(13, .int x78), (12, .int x69), (11, .int x62), (10, .int x60), (9, .ref q54), (0, .ref h0), (1, .ref h1), (2, .ref h2), (3, .int x4), (4, .int x8), (5, .int i), (6, .ref q36), (7, .int x42), (8, .int j8)]) hx hb dX2_measureForests_354 hl (by decide) rfl (fun ls hl => ?_)
                                  refine lv_iload hx hb dX2_measureForests_356 (lv_at hl 1 rfl) ?_
                                  refine lv_iload hx hb dX2_measureForests_358 (lv_at hl 0 rfl) ?_
                                  refine va_mmin hx hb (hml.trans hl.1.symm) hown (hts _ m_X2_72) (hts _ i_J9_min_7cf53.2) (hts _ i_J9_min_7cf53.1.2.1) (hts _ i_J9_min_7cf53.1.1) (Nat.le_of_ble_eq_true rfl) (Nat.le_of_ble_eq_true rfl) (by decide) (by decide) dX2_measureForests_360 ?_
                                  refine lv_topi (fun x79 ex79 => ?_)
                                  refine lv_istore (lv' := [(12, .int x79), (13, .int x78), (11, .int x62), (10, .int x60), (9, .ref q54), (0, .ref h0), (1, .ref h1), (2, .ref h2), (3, .int x4), (4, .int x8), (5, .int i), (6, .ref q36), (7, .int x42), (8, .int j8)]) hx hb dX2_measureForests_363 hl (by decide) rfl (fun ls hl => ?_)
                                  refine lv_aload_n hx hb dX2_measureForests_365 rfl (lv_at hl 5 rfl) ?_
                                  refine r_get (ci := 2) (k := 0) (v := .ref q63) C hM kh0 f_X2_26 (congrArg va_rf (eq63)) dX2_measureForests_366 ?_
                                  refine lv_iload hx hb dX2_measureForests_369 (lv_at hl 2 rfl) ?_
                                  refine lv_iload hx hb dX2_measureForests_371 (lv_at hl 0 rfl) ?_
                                  refine r_iast C hM kq63 (inI (by omega) (by rw [nq63 (by decide)]; show _ < (3721 : Int); omega)) dX2_measureForests_373 (fun H locs hM => ?_)
                                  have hM : mH D H0 (qI Sc q63 x62.toNatClampNeg x79) kc ns H locs := hM
                                  have hI := hI.fe (fEq.AI (S := Sc) (a := q63) (i := x62.toNatClampNeg) (v := x79))
                                  have hF := hF.trans (fEq.AI (S := Sc) (a := q63) (i := x62.toNatClampNeg) (v := x79))
                                  obtain ⟨x80, ex80⟩ : ∃ y : Int32, y = j8 + (-1) := ⟨_, rfl⟩
                                  try (have tx80 := addI (a := j8) (b := (-1)) (by omega) (by omega); rw [← ex80] at tx80)
                                  refine lv_iinc (v := x80) (lv' := [(8, .int x80), (12, .int x79), (13, .int x78), (11, .int x62), (10, .int x60), (9, .ref q54), (0, .ref h0), (1, .ref h1), (2, .ref h2), (3, .int x4), (4, .int x8), (5, .int i), (6, .ref q36), (7, .int x42)]) hx hb dX2_measureForests_374 hl (k := 13) rfl (by rw [ex80]; rfl) (by decide) rfl (fun ls hl => ?_)
                                  refine lv_goto (tgt := 182) hx hb dX2_measureForests_377 (by decide) ?_
                                  exact ih182 x80 (qI Sc q63 x62.toNatClampNeg x79) _ _ _ (hF) (by omega) (by omega) (lv_sub hl [6, 7, 8, 9, 10, 11, 12, 13, 0] rfl) hM
                                · have tc70 := eqT c70
                                  refine lv_iload hx hb dX2_measureForests_275 (lv_at hl 2 rfl) ?_
                                  refine lv_iload hx hb dX2_measureForests_277 (lv_at hl 8 rfl) ?_
                                  refine lv_icmp_ne (tgt := 327) hx hb dX2_measureForests_279 (by decide) (fun c81 => ?_) (fun c81 => ?_)
                                  · have tc81 := eqF c81
                                    refine lv_aload_n hx hb dX2_measureForests_327 rfl (lv_at hl 4 rfl) ?_
                                    refine r_get (ci := 2) (k := 0) (v := .ref q63) C hM kh0 f_X2_26 (congrArg va_rf (eq63)) dX2_measureForests_328 ?_
                                    refine lv_iload hx hb dX2_measureForests_331 (lv_at hl 11 rfl) ?_
                                    refine lv_bipush (v := 61) hx hb dX2_measureForests_333 (by decide) ?_
                                    refine lv_imul hx hb dX2_measureForests_335 ?_
                                    refine lv_topi (fun x82 ex82 => ?_)
                                    try (have tx82 := mulC (a := x42) (k := 61) (n := 61) (by decide) (by omega) (by omega); rw [← ex82] at tx82)
                                    refine lv_iload hx hb dX2_measureForests_336 (lv_at hl 2 rfl) ?_
                                    refine lv_iadd hx hb dX2_measureForests_338 ?_
                                    refine lv_topi (fun x83 ex83 => ?_)
                                    try (have tx83 := addI (a := x82) (b := x60) (by omega) (by omega); rw [← ex83] at tx83)
                                    refine r_iald C hM kq63 (inI (by omega) (by rw [nq63 (by decide)]; show _ < (3721 : Int); omega)) dX2_measureForests_339 ?_
                                    refine lv_topi (fun x84 ex84 => ?_)
                                    refine lv_aload_n hx hb dX2_measureForests_340 rfl (lv_at hl 4 rfl) ?_
                                    obtain ⟨q85, eq85, kq85, nq85⟩ := TI.nn hI.1 (ci := 2) (k := 1) kh0
                                    refine r_get (ci := 2) (k := 1) (v := .ref q85) C hM kh0 f_X2_9 (congrArg va_rf eq85) dX2_measureForests_341 ?_
                                    refine lv_iload hx hb dX2_measureForests_344 (lv_at hl 9 rfl) ?_
                                    refine lv_bipush (v := 60) hx hb dX2_measureForests_346 (by decide) ?_
                                    refine lv_imul hx hb dX2_measureForests_348 ?_
                                    refine lv_topi (fun x86 ex86 => ?_)
                                    try (have tx86 := mulC (a := i) (k := 60) (n := 60) (by decide) (by omega) (by omega); rw [← ex86] at tx86)
                                    refine lv_iload hx hb dX2_measureForests_349 (lv_at hl 12 rfl) ?_
                                    refine lv_iadd hx hb dX2_measureForests_351 ?_
                                    refine lv_topi (fun x87 ex87 => ?_)
                                    try (have tx87 := addI (a := x86) (b := j8) (by omega) (by omega); rw [← ex87] at tx87)
                                    refine r_iald C hM kq85 (inI (by omega) (by rw [nq85 (by decide)]; show _ < (3600 : Int); omega)) dX2_measureForests_352 ?_
                                    refine lv_topi (fun x88 ex88 => ?_)
                                    refine lv_iadd hx hb dX2_measureForests_353 ?_
                                    refine lv_topi (fun x89 ex89 => ?_)
                                    try (have tx89 := addI (a := x84) (b := x88) (by omega) (by omega); rw [← ex89] at tx89)
                                    refine lv_istore (lv' := [(13, .int x89), (12, .int x69), (11, .int x62), (10, .int x60), (9, .ref q54), (0, .ref h0), (1, .ref h1), (2, .ref h2), (3, .int x4), (4, .int x8), (5, .int i), (6, .ref q36), (7, .int x42), (8, .int j8)]) hx hb dX2_measureForests_354 hl (by decide) rfl (fun ls hl => ?_)
                                    refine lv_iload hx hb dX2_measureForests_356 (lv_at hl 1 rfl) ?_
                                    refine lv_iload hx hb dX2_measureForests_358 (lv_at hl 0 rfl) ?_
                                    refine va_mmin hx hb (hml.trans hl.1.symm) hown (hts _ m_X2_72) (hts _ i_J9_min_7cf53.2) (hts _ i_J9_min_7cf53.1.2.1) (hts _ i_J9_min_7cf53.1.1) (Nat.le_of_ble_eq_true rfl) (Nat.le_of_ble_eq_true rfl) (by decide) (by decide) dX2_measureForests_360 ?_
                                    refine lv_topi (fun x90 ex90 => ?_)
                                    refine lv_istore (lv' := [(12, .int x90), (13, .int x89), (11, .int x62), (10, .int x60), (9, .ref q54), (0, .ref h0), (1, .ref h1), (2, .ref h2), (3, .int x4), (4, .int x8), (5, .int i), (6, .ref q36), (7, .int x42), (8, .int j8)]) hx hb dX2_measureForests_363 hl (by decide) rfl (fun ls hl => ?_)
                                    refine lv_aload_n hx hb dX2_measureForests_365 rfl (lv_at hl 5 rfl) ?_
                                    refine r_get (ci := 2) (k := 0) (v := .ref q63) C hM kh0 f_X2_26 (congrArg va_rf (eq63)) dX2_measureForests_366 ?_
                                    refine lv_iload hx hb dX2_measureForests_369 (lv_at hl 2 rfl) ?_
                                    refine lv_iload hx hb dX2_measureForests_371 (lv_at hl 0 rfl) ?_
                                    refine r_iast C hM kq63 (inI (by omega) (by rw [nq63 (by decide)]; show _ < (3721 : Int); omega)) dX2_measureForests_373 (fun H locs hM => ?_)
                                    have hM : mH D H0 (qI Sc q63 x62.toNatClampNeg x90) kc ns H locs := hM
                                    have hI := hI.fe (fEq.AI (S := Sc) (a := q63) (i := x62.toNatClampNeg) (v := x90))
                                    have hF := hF.trans (fEq.AI (S := Sc) (a := q63) (i := x62.toNatClampNeg) (v := x90))
                                    obtain ⟨x91, ex91⟩ : ∃ y : Int32, y = j8 + (-1) := ⟨_, rfl⟩
                                    try (have tx91 := addI (a := j8) (b := (-1)) (by omega) (by omega); rw [← ex91] at tx91)
                                    refine lv_iinc (v := x91) (lv' := [(8, .int x91), (12, .int x90), (13, .int x89), (11, .int x62), (10, .int x60), (9, .ref q54), (0, .ref h0), (1, .ref h1), (2, .ref h2), (3, .int x4), (4, .int x8), (5, .int i), (6, .ref q36), (7, .int x42)]) hx hb dX2_measureForests_374 hl (k := 13) rfl (by rw [ex91]; rfl) (by decide) rfl (fun ls hl => ?_)
                                    refine lv_goto (tgt := 182) hx hb dX2_measureForests_377 (by decide) ?_
                                    exact ih182 x91 (qI Sc q63 x62.toNatClampNeg x90) _ _ _ (hF) (by omega) (by omega) (lv_sub hl [6, 7, 8, 9, 10, 11, 12, 13, 0] rfl) hM
                                  · have tc81 := eqT c81
                                    refine lv_iload hx hb dX2_measureForests_282 (lv_at hl 0 rfl) ?_
                                    refine lv_aload_n hx hb dX2_measureForests_284 rfl (lv_at hl 4 rfl) ?_
                                    refine r_get (ci := 2) (k := 0) (v := .ref q63) C hM kh0 f_X2_26 (congrArg va_rf (eq63)) dX2_measureForests_285 ?_
                                    refine lv_iload hx hb dX2_measureForests_288 (lv_at hl 1 rfl) ?_
                                    refine lv_bipush (v := 61) hx hb dX2_measureForests_290 (by decide) ?_
                                    refine lv_iadd hx hb dX2_measureForests_292 ?_
                                    refine lv_topi (fun x92 ex92 => ?_)
                                    try (have tx92 := addI (a := x62) (b := 61) (by omega) (by omega); rw [← ex92] at tx92)
                                    refine lv_iconst (v := 1) hx hb dX2_measureForests_293 (by decide) ?_
                                    refine lv_iadd hx hb dX2_measureForests_294 ?_
                                    refine lv_topi (fun x93 ex93 => ?_)
                                    try (have tx93 := addI (a := x92) (b := 1) (by omega) (by omega); rw [← ex93] at tx93)
                                    refine r_iald C hM kq63 (inI (by omega) (by rw [nq63 (by decide)]; show _ < (3721 : Int); omega)) dX2_measureForests_295 ?_
                                    refine lv_topi (fun x94 ex94 => ?_)
                                    refine lv_aload hx hb dX2_measureForests_296 (lv_at hl 10 rfl) ?_
                                    refine lv_aload hx hb dX2_measureForests_298 (lv_at hl 3 rfl) ?_
                                    refine r_S (As := [.ref q36, .ref q54]) (rest := [.int x94, .int x69]) C hM (c_X2_change l D H0 Sc kc ns q36 q54 hI kq36 kq54) i_X2_change m_X2_78 rfl hl.1 rfl (Nat.le_of_ble_eq_true rfl) ⟨by decide, by decide⟩ ⟨by decide, by decide⟩ dX2_measureForests_300 (fun x98 S95 k96 n97 H locs p99 hM => ?_)
                                    obtain ⟨rfl, rfl, rfl, hx98⟩ := p99
                                    refine W.eq (g2 := F0 m 303 ls [.int x98, .int x94, .int x69]) rfl ?_
                                    refine lv_iadd hx hb dX2_measureForests_303 ?_
                                    refine lv_topi (fun x100 ex100 => ?_)
                                    try (have tx100 := addI (a := x94) (b := x98) (by omega) (by omega); rw [← ex100] at tx100)
                                    refine va_mmin hx hb (hml.trans hl.1.symm) hown (hts _ m_X2_72) (hts _ i_J9_min_7cf53.2) (hts _ i_J9_min_7cf53.1.2.1) (hts _ i_J9_min_7cf53.1.1) (Nat.le_of_ble_eq_true rfl) (Nat.le_of_ble_eq_true rfl) (by decide) (by decide) dX2_measureForests_304 ?_
                                    refine lv_topi (fun x101 ex101 => ?_)
                                    refine lv_istore (lv' := [(12, .int x101), (11, .int x62), (10, .int x60), (9, .ref q54), (0, .ref h0), (1, .ref h1), (2, .ref h2), (3, .int x4), (4, .int x8), (5, .int i), (6, .ref q36), (7, .int x42), (8, .int j8)]) hx hb dX2_measureForests_307 hl (by decide) rfl (fun ls hl => ?_)
                                    refine lv_aload_n hx hb dX2_measureForests_309 rfl (lv_at hl 4 rfl) ?_
                                    obtain ⟨q102, eq102, kq102, nq102⟩ := TI.nn hI.1 (ci := 2) (k := 1) kh0
                                    refine r_get (ci := 2) (k := 1) (v := .ref q102) C hM kh0 f_X2_9 (congrArg va_rf eq102) dX2_measureForests_310 ?_
                                    refine lv_iload hx hb dX2_measureForests_313 (lv_at hl 9 rfl) ?_
                                    refine lv_bipush (v := 60) hx hb dX2_measureForests_315 (by decide) ?_
                                    refine lv_imul hx hb dX2_measureForests_317 ?_
                                    refine lv_topi (fun x103 ex103 => ?_)
                                    try (have tx103 := mulC (a := i) (k := 60) (n := 60) (by decide) (by omega) (by omega); rw [← ex103] at tx103)
                                    refine lv_iload hx hb dX2_measureForests_318 (lv_at hl 12 rfl) ?_
                                    refine lv_iadd hx hb dX2_measureForests_320 ?_
                                    refine lv_topi (fun x104 ex104 => ?_)
                                    try (have tx104 := addI (a := x103) (b := j8) (by omega) (by omega); rw [← ex104] at tx104)
                                    refine lv_iload hx hb dX2_measureForests_321 (lv_at hl 0 rfl) ?_
                                    refine r_iast C hM kq102 (inI (by omega) (by rw [nq102 (by decide)]; show _ < (3600 : Int); omega)) dX2_measureForests_323 (fun H locs hM => ?_)
                                    have hM : mH D H0 (qI Sc q102 x104.toNatClampNeg x101) kc ns H locs := hM
                                    have hI := hI.fe (fEq.AI (S := Sc) (a := q102) (i := x104.toNatClampNeg) (v := x101))
                                    have hF := hF.trans (fEq.AI (S := Sc) (a := q102) (i := x104.toNatClampNeg) (v := x101))
                                    refine lv_goto (tgt := 365) hx hb dX2_measureForests_324 (by decide) ?_
                                    refine lv_aload_n hx hb dX2_measureForests_365 rfl (lv_at hl 4 rfl) ?_
                                    refine r_get (ci := 2) (k := 0) (v := .ref q63) C hM kh0 f_X2_26 (congrArg va_rf (eq63)) dX2_measureForests_366 ?_
                                    refine lv_iload hx hb dX2_measureForests_369 (lv_at hl 1 rfl) ?_
                                    refine lv_iload hx hb dX2_measureForests_371 (lv_at hl 0 rfl) ?_
                                    refine r_iast C hM kq63 (inI (by omega) (by rw [nq63 (by decide)]; show _ < (3721 : Int); omega)) dX2_measureForests_373 (fun H locs hM => ?_)
                                    have hM : mH D H0 (qI (qI Sc q102 x104.toNatClampNeg x101) q63 x62.toNatClampNeg x101) kc ns H locs := hM
                                    have hI := hI.fe (fEq.AI (S := (qI Sc q102 x104.toNatClampNeg x101)) (a := q63) (i := x62.toNatClampNeg) (v := x101))
                                    have hF := hF.trans (fEq.AI (S := (qI Sc q102 x104.toNatClampNeg x101)) (a := q63) (i := x62.toNatClampNeg) (v := x101))
                                    obtain ⟨x105, ex105⟩ : ∃ y : Int32, y = j8 + (-1) := ⟨_, rfl⟩
                                    try (have tx105 := addI (a := j8) (b := (-1)) (by omega) (by omega); rw [← ex105] at tx105)
                                    refine lv_iinc (v := x105) (lv' := [(8, .int x105), (12, .int x101), (11, .int x62), (10, .int x60), (9, .ref q54), (0, .ref h0), (1, .ref h1), (2, .ref h2), (3, .int x4), (4, .int x8), (5, .int i), (6, .ref q36), (7, .int x42)]) hx hb dX2_measureForests_374 hl (k := 12) rfl (by rw [ex105]; rfl) (by decide) rfl (fun ls hl => ?_)
                                    refine lv_goto (tgt := 182) hx hb dX2_measureForests_377 (by decide) ?_
                                    exact ih182 x105 (qI (qI Sc q102 x104.toNatClampNeg x101) q63 x62.toNatClampNeg x101) _ _ _ (hF) (by omega) (by omega) (lv_sub hl [5, 6, 7, 8, 9, 10, 11, 12, 0] rfl) hM
                              · have tc57 := ltF c57
                                exact r_retV C hr hlk hM (⟨rfl, rfl, hF, trivial⟩) dX2_measureForests_220
                      exact loop182 (((x43.toInt + 1).toNat) + 1) x43 (qI Sb q26 x28.toNatClampNeg x30) _ _ _ (hF) (by omega) (by omega) (lv_sub hl [3, 4, 5, 6, 7, 8, 2, 1, 0] rfl) hM
                    · have tc39 := ltF c39
                      exact r_retV C hr hlk hM (⟨rfl, rfl, hF, trivial⟩) dX2_measureForests_163
            exact loop107 (((x21.toInt + 1).toNat) + 1) x21 Sa _ _ _ (hF) (by omega) (by omega) (lv_sub hl [1, 2, 3, 4, 5, 0] rfl) hM
          · have tc20 := ltF c20
            refine lv_aload_n hx hb dX2_measureForests_77 rfl (lv_at hl 0 rfl) ?_
            obtain ⟨q106, eq106, kq106, nq106⟩ := TI.nn hI.1 (ci := 2) (k := 0) kh0
            refine r_get (ci := 2) (k := 0) (v := .ref q106) C hM kh0 f_X2_26 (congrArg va_rf eq106) dX2_measureForests_78 ?_
            refine lv_iload_n hx hb dX2_measureForests_81 rfl (lv_at hl 3 rfl) ?_
            refine lv_bipush (v := 61) hx hb dX2_measureForests_82 (by decide) ?_
            refine lv_imul hx hb dX2_measureForests_84 ?_
            refine lv_topi (fun x107 ex107 => ?_)
            try (have tx107 := mulC (a := x4) (k := 61) (n := 61) (by decide) (by omega) (by omega); rw [← ex107] at tx107)
            refine lv_iload hx hb dX2_measureForests_85 (lv_at hl 5 rfl) ?_
            refine lv_iadd hx hb dX2_measureForests_87 ?_
            refine lv_topi (fun x108 ex108 => ?_)
            try (have tx108 := addI (a := x107) (b := j) (by omega) (by omega); rw [← ex108] at tx108)
            refine lv_iload hx hb dX2_measureForests_88 (lv_at hl 4 rfl) ?_
            refine lv_iload hx hb dX2_measureForests_90 (lv_at hl 5 rfl) ?_
            refine lv_isub hx hb dX2_measureForests_92 ?_
            refine lv_topi (fun x109 ex109 => ?_)
            try (have tx109 := subI (a := x8) (b := j) (by omega) (by omega); rw [← ex109] at tx109)
            refine lv_iconst (v := 3) hx hb dX2_measureForests_93 (by decide) ?_
            refine lv_imul hx hb dX2_measureForests_94 ?_
            refine lv_topi (fun x110 ex110 => ?_)
            try (have tx110 := mulC (a := x109) (k := 3) (n := 3) (by decide) (by omega) (by omega); rw [← ex110] at tx110)
            refine r_iast C hM kq106 (inI (by omega) (by rw [nq106 (by decide)]; show _ < (3721 : Int); omega)) dX2_measureForests_95 (fun H locs hM => ?_)
            have hM : mH D H0 (qI Sa q106 x108.toNatClampNeg x110) kc ns H locs := hM
            have hI := hI.fe (fEq.AI (S := Sa) (a := q106) (i := x108.toNatClampNeg) (v := x110))
            have hF := hF.trans (fEq.AI (S := Sa) (a := q106) (i := x108.toNatClampNeg) (v := x110))
            obtain ⟨x111, ex111⟩ : ∃ y : Int32, y = j + (-1) := ⟨_, rfl⟩
            try (have tx111 := addI (a := j) (b := (-1)) (by omega) (by omega); rw [← ex111] at tx111)
            refine lv_iinc (v := x111) (lv' := [(5, .int x111), (0, .ref h0), (1, .ref h1), (2, .ref h2), (3, .int x4), (4, .int x8)]) hx hb dX2_measureForests_96 hl (k := 5) rfl (by rw [ex111]; rfl) (by decide) rfl (fun ls hl => ?_)
            refine lv_goto (tgt := 68) hx hb dX2_measureForests_99 (by decide) ?_
            exact ih68 x111 (qI Sa q106 x108.toNatClampNeg x110) _ _ _ (hF) (by omega) (by omega) (lv_sub hl [1, 2, 3, 4, 5, 0] rfl) hM
      exact loop68 (((x16.toInt + 1).toNat) + 1) x16 (qI S q13 x15.toNatClampNeg 0) _ _ _ (hF) (by omega) (by omega) (lv_sub hl [3, 4, 5, 2, 1, 0] rfl) hM
    · have tc12 := leF c12
      exact r_retV C hr hlk hM (⟨rfl, rfl, hF, trivial⟩) dX2_measureForests_48
set_option maxHeartbeats 4000000 in
set_option maxRecDepth 100000 in
theorem c_X2_measureKey (l : Launch) (D : gD) (H0 : Heap) (S : Mem) (kc ns : Nat) (h0 h1 : Nat) {u : Nat} {tl : Int} {rho : Nat} (hI : CI x0 u tl rho S) (qf qt : Nat) (hu : u < 2000000000) (ef : mR S 203 h0 = some qf) (et : mR S 204 h0 = some qt) (kqf : mK S qf = 5) (kqt : mK S qt = 5) (kh0 : mK S h0 = 3) (kh1 : mK S h1 = 6) : Met l yX2_measureKey (wsU yX2_measureKey cX2_measureKey 4 none) ({ frames := 3, cells := 0, slots := 0, locals := 75 } : Room) (mP D H0 S kc ns [.ref h0, .ref h1]) (mQ D H0 gV (fun r S1 k1 n1 => kc = k1 ∧ ns = n1 ∧ fEq S S1 ∧ True)) 0 0 (mF H0) := by
  refine r_met (own := RX2) (by decide +kernel) rfl (Nat.le_of_ble_eq_true rfl) ?_
  intro p e s m args below meth c C hr hlk hnm H ls hl hM
  obtain ⟨hx, hb, hml, hown, hts, -, -⟩ := id C
  have hl : lv_has ls 4 [(0, .ref h0), (1, .ref h1)] := hl
  have hI0 := hI
  have hF : fEq S S := fEq.rf
  have t_m1 : (-1 : Int32).toInt = -1 := by decide
  have t_0 : (0 : Int32).toInt = 0 := by decide
  have t_1 : (1 : Int32).toInt = 1 := by decide
  refine lv_aload_n hx hb dX2_measureKey_0 rfl (lv_at hl 0 rfl) ?_
  refine r_get (ci := 2) (k := 4) (v := .ref qt) C hM kh0 f_X2_23 (congrArg va_rf (et)) dX2_measureKey_1 ?_
  refine r_getN (ci := 4) (k := 1) (v := .int (mI S 401 qt)) C hM kqt f_X2_55 rfl dX2_measureKey_4 ?_
  refine lv_topi (fun x1 ex1 => ?_)
  have fx1 := NI.f401 hI.2 kqt
  rw [← ex1] at fx1
  refine lv_iconst (v := 1) hx hb dX2_measureKey_7 (by decide) ?_
  refine lv_isub hx hb dX2_measureKey_8 ?_
  refine lv_topi (fun x2 ex2 => ?_)
  try (have tx2 := subI (a := x1) (b := 1) (by omega) (by omega); rw [← ex2] at tx2)
  refine lv_istore_n (lv' := [(2, .int x2), (0, .ref h0), (1, .ref h1)]) hx hb dX2_measureKey_9 rfl hl (by decide) rfl (fun ls hl => ?_)
  have hFa10 := hF
  have loop10 : ∀ (fu : Nat) (j : Int32) (Sa : Mem) (H : Heap) (locs : List Loc) (ls : Array Slot), (fEq S Sa) → (-1 ≤ j.toInt ∧ j.toInt < 60) → (j.toInt + 1).toNat < fu → lv_has ls 4 [(0, .ref h0), (1, .ref h1), (2, .int j)] → mH D H0 Sa kc ns H locs → W p l e ({ frames := 3, cells := 0, slots := 0, locals := 75 } : Room) s m args below meth c H locs 0 0 (MQ below (mQ D H0 gV (fun r S1 k1 n1 => kc = k1 ∧ ns = n1 ∧ fEq S S1 ∧ True)) args s 0 0 (mF H0)) (F0 m 10 ls []) := by
    intro fu
    induction fu with
    | zero => intro j Sa H locs ls h10_0 h10_1 hfu; exact absurd hfu (by omega)
    | succ fu ih10 =>
      intro j Sa H locs ls h10_0 h10_1 hfu hl hM
      have hF := h10_0
      have hI := hI0.fe hF
      have kh0 : mK Sa h0 = 3 := (congrFun (hF.1.trans hFa10.1.symm) h0).trans kh0
      have kh1 : mK Sa h1 = 6 := (congrFun (hF.1.trans hFa10.1.symm) h1).trans kh1
      have kqf : mK Sa qf = 5 := (congrFun (hF.1.trans hFa10.1.symm) qf).trans kqf
      have kqt : mK Sa qt = 5 := (congrFun (hF.1.trans hFa10.1.symm) qt).trans kqt
      have v3 : mR Sa 203 h0 = some qf := ((congrFun (congrFun hF.2.1 203) h0).trans (congrFun (congrFun hFa10.2.1 203) h0).symm).trans (ef)
      have v4 : mR Sa 204 h0 = some qt := ((congrFun (congrFun hF.2.1 204) h0).trans (congrFun (congrFun hFa10.2.1 204) h0).symm).trans (et)
      refine lv_iload_n hx hb dX2_measureKey_10 rfl (lv_at hl 2 rfl) ?_
      refine lv_if_lt (tgt := 50) hx hb dX2_measureKey_11 (by decide) (fun c5 => ?_) (fun c5 => ?_)
      · have tc5 := ltT c5
        exact r_retV C hr hlk hM (⟨rfl, rfl, hF, trivial⟩) dX2_measureKey_50
      · have tc5 := ltF c5
        refine lv_aload_n hx hb dX2_measureKey_14 rfl (lv_at hl 0 rfl) ?_
        refine r_get (ci := 2) (k := 4) (v := .ref qt) C hM kh0 f_X2_23 (congrArg va_rf (v4)) dX2_measureKey_15 ?_
        refine lv_iload_n hx hb dX2_measureKey_18 rfl (lv_at hl 2 rfl) ?_
        refine r_VN (As := [.int j]) (rest := []) (ci := 4) C hM (c_X4_at l D H0 Sa kc ns qt j hI id kqt) i_X4_at m_X2_60 kqt rfl rfl rfl hl.1 rfl (Nat.le_of_ble_eq_true rfl) ⟨by decide, by decide⟩ ⟨by decide, by decide⟩ dX2_measureKey_19 (fun r9 S6 k7 n8 H locs p10 hM => ?_)
        obtain ⟨rfl, rfl, rfl, kr9⟩ := p10
        refine W.eq (g2 := F0 m 22 ls [va_rf r9]) rfl ?_
        refine lv_astore_nQ (lv' := [(3, va_rf r9), (0, .ref h0), (1, .ref h1), (2, .int j)]) hx hb dX2_measureKey_22 rfl hl (by decide) rfl (fun ls hl => ?_)
        refine lv_aload_nQ hx hb dX2_measureKey_23 rfl (lv_at hl 0 rfl) ?_
        cases r9 with
        | none =>
          refine lv_ifnullN (tgt := 44) hx hb dX2_measureKey_24 (by decide) ?_
          obtain ⟨x12, ex12⟩ : ∃ y : Int32, y = j + (-1) := ⟨_, rfl⟩
          try (have tx12 := addI (a := j) (b := (-1)) (by omega) (by omega); rw [← ex12] at tx12)
          refine lv_iinc (v := x12) (lv' := [(2, .int x12), (3, .null), (0, .ref h0), (1, .ref h1)]) hx hb dX2_measureKey_44 hl (k := 3) rfl (by rw [ex12]; rfl) (by decide) rfl (fun ls hl => ?_)
          refine lv_goto (tgt := 10) hx hb dX2_measureKey_47 (by decide) ?_
          exact ih10 x12 Sa _ _ _ (hF) (by omega) (by omega) (lv_sub hl [2, 3, 0] rfl) hM
        | some q11 =>
          have kq11 : mK Sa q11 = 6 := kr9 q11 rfl
          refine lv_ifnull hx hb dX2_measureKey_24 ?_
          refine lv_aload_n hx hb dX2_measureKey_27 rfl (lv_at hl 0 rfl) ?_
          refine r_getN (ci := 5) (k := 8) C hM kq11 f_X2_45 rfl dX2_measureKey_28 ?_
          obtain ⟨r13, er13, kr13⟩ : ∃ r : Option Nat, mR Sa 508 q11 = r ∧ ∀ q, r = some q → mK Sa q = 6 := ⟨_, rfl, TI.opt hI.1 (ci := 5) (k := 8) kq11⟩
          refine W.eq (g2 := F0 m 31 ls [va_rf r13]) (by rw [← er13]; rfl) ?_
          cases r13 with
          | none =>
            refine lv_ifnonnullN hx hb dX2_measureKey_31 ?_
            refine lv_iload_n hx hb dX2_measureKey_34 rfl (lv_at hl 3 rfl) ?_
            refine lv_if_ne (tgt := 44) hx hb dX2_measureKey_35 (by decide) (fun c15 => ?_) (fun c15 => ?_)
            · have tc15 := eqF c15
              obtain ⟨x16, ex16⟩ : ∃ y : Int32, y = j + (-1) := ⟨_, rfl⟩
              try (have tx16 := addI (a := j) (b := (-1)) (by omega) (by omega); rw [← ex16] at tx16)
              refine lv_iinc (v := x16) (lv' := [(2, .int x16), (3, .ref q11), (0, .ref h0), (1, .ref h1)]) hx hb dX2_measureKey_44 hl (k := 3) rfl (by rw [ex16]; rfl) (by decide) rfl (fun ls hl => ?_)
              refine lv_goto (tgt := 10) hx hb dX2_measureKey_47 (by decide) ?_
              exact ih10 x16 Sa _ _ _ (hF) (by omega) (by omega) (lv_sub hl [2, 3, 0] rfl) hM
            · have tc15 := eqT c15
              refine lv_aload_n hx hb dX2_measureKey_38 rfl (lv_at hl 1 rfl) ?_
              refine lv_aload_n hx hb dX2_measureKey_39 rfl (lv_at hl 2 rfl) ?_
              refine lv_aload_n hx hb dX2_measureKey_40 rfl (lv_at hl 0 rfl) ?_
              refine r_V (As := [.ref h1, .ref q11]) (rest := []) (ci := 2) C hM (c_X2_measureForests l D H0 Sa kc ns h0 h1 q11 hI qf qt hu v3 v4 kqf kqt kh0 kh1 kq11) i_X2_measureForests m_X2_68 kh0 rfl rfl rfl hl.1 rfl (Nat.le_of_ble_eq_true rfl) ⟨by decide, by decide⟩ ⟨by decide, by decide⟩ dX2_measureKey_41 (fun u20 S17 k18 n19 H locs p21 hM => ?_)
              obtain ⟨rfl, rfl, hf9, hu20⟩ := p21
              have hF := hF.trans hf9
              have hI := hI.fe hf9
              have kq11 : mK S17 q11 = 6 := (congrFun (hf9.1) q11).trans kq11
              have kh0 : mK S17 h0 = 3 := (congrFun (hf9.1) h0).trans kh0
              have kh1 : mK S17 h1 = 6 := (congrFun (hf9.1) h1).trans kh1
              have kqf : mK S17 qf = 5 := (congrFun (hf9.1) qf).trans kqf
              have kqt : mK S17 qt = 5 := (congrFun (hf9.1) qt).trans kqt
              have v22 : mR S17 203 h0 = some qf := (congrFun (congrFun hf9.2.1 203) h0).trans (v3)
              have v23 : mR S17 204 h0 = some qt := (congrFun (congrFun hf9.2.1 204) h0).trans (v4)
              refine W.eq (g2 := F0 m 44 ls []) rfl ?_
              obtain ⟨x24, ex24⟩ : ∃ y : Int32, y = j + (-1) := ⟨_, rfl⟩
              try (have tx24 := addI (a := j) (b := (-1)) (by omega) (by omega); rw [← ex24] at tx24)
              refine lv_iinc (v := x24) (lv' := [(2, .int x24), (3, .ref q11), (0, .ref h0), (1, .ref h1)]) hx hb dX2_measureKey_44 hl (k := 3) rfl (by rw [ex24]; rfl) (by decide) rfl (fun ls hl => ?_)
              refine lv_goto (tgt := 10) hx hb dX2_measureKey_47 (by decide) ?_
              exact ih10 x24 S17 _ _ _ (hF) (by omega) (by omega) (lv_sub hl [2, 3, 0] rfl) hM
          | some q14 =>
            have kq14 : mK Sa q14 = 6 := kr13 q14 rfl
            refine lv_ifnonnull (tgt := 38) hx hb dX2_measureKey_31 (by decide) ?_
            refine lv_aload_n hx hb dX2_measureKey_38 rfl (lv_at hl 1 rfl) ?_
            refine lv_aload_n hx hb dX2_measureKey_39 rfl (lv_at hl 2 rfl) ?_
            refine lv_aload_n hx hb dX2_measureKey_40 rfl (lv_at hl 0 rfl) ?_
            refine r_V (As := [.ref h1, .ref q11]) (rest := []) (ci := 2) C hM (c_X2_measureForests l D H0 Sa kc ns h0 h1 q11 hI qf qt hu v3 v4 kqf kqt kh0 kh1 kq11) i_X2_measureForests m_X2_68 kh0 rfl rfl rfl hl.1 rfl (Nat.le_of_ble_eq_true rfl) ⟨by decide, by decide⟩ ⟨by decide, by decide⟩ dX2_measureKey_41 (fun u28 S25 k26 n27 H locs p29 hM => ?_)
            obtain ⟨rfl, rfl, hf9, hu28⟩ := p29
            have hF := hF.trans hf9
            have hI := hI.fe hf9
            have kq11 : mK S25 q11 = 6 := (congrFun (hf9.1) q11).trans kq11
            have kh0 : mK S25 h0 = 3 := (congrFun (hf9.1) h0).trans kh0
            have kh1 : mK S25 h1 = 6 := (congrFun (hf9.1) h1).trans kh1
            have kqf : mK S25 qf = 5 := (congrFun (hf9.1) qf).trans kqf
            have kqt : mK S25 qt = 5 := (congrFun (hf9.1) qt).trans kqt
            have kq14 : mK S25 q14 = 6 := (congrFun (hf9.1) q14).trans kq14
            have v30 : mR S25 203 h0 = some qf := (congrFun (congrFun hf9.2.1 203) h0).trans (v3)
            have v31 : mR S25 204 h0 = some qt := (congrFun (congrFun hf9.2.1 204) h0).trans (v4)
            have v32 : mR S25 508 q11 = some q14 := (congrFun (congrFun hf9.2.1 508) q11).trans (er13)
            refine W.eq (g2 := F0 m 44 ls []) rfl ?_
            obtain ⟨x33, ex33⟩ : ∃ y : Int32, y = j + (-1) := ⟨_, rfl⟩
            try (have tx33 := addI (a := j) (b := (-1)) (by omega) (by omega); rw [← ex33] at tx33)
            refine lv_iinc (v := x33) (lv' := [(2, .int x33), (3, .ref q11), (0, .ref h0), (1, .ref h1)]) hx hb dX2_measureKey_44 hl (k := 3) rfl (by rw [ex33]; rfl) (by decide) rfl (fun ls hl => ?_)
            refine lv_goto (tgt := 10) hx hb dX2_measureKey_47 (by decide) ?_
            exact ih10 x33 S25 _ _ _ (hF) (by omega) (by omega) (lv_sub hl [2, 3, 0] rfl) hM
  exact loop10 (((x2.toInt + 1).toNat) + 1) x2 S _ _ _ (hF) (by omega) (by omega) (lv_sub hl [1, 2, 0] rfl) hM
set_option maxHeartbeats 4000000 in
set_option maxRecDepth 100000 in
theorem c_X2_measure (l : Launch) (D : gD) (H0 : Heap) (S : Mem) (kc ns : Nat) (h0 h1 : Nat) {u : Nat} {tl : Int} {rho : Nat} (hI : CI x0 u tl rho S) (hu : u < 2000000000) (kh0 : mK S h0 = 3) (kh1 : mK S h1 = 6) : Met l yX2_measure (wsU yX2_measure cX2_measure 5 none) ({ frames := 4, cells := 0, slots := 0, locals := 98 } : Room) (mP D H0 S kc ns [.ref h0, .ref h1]) (mQ D H0 gV (fun r S1 k1 n1 => kc = k1 ∧ ns = n1 ∧ fEq S S1 ∧ True)) 0 0 (mF H0) := by
  refine r_met (own := RX2) (by decide +kernel) rfl (Nat.le_of_ble_eq_true rfl) ?_
  intro p e s m args below meth c C hr hlk hnm H ls hl hM
  obtain ⟨hx, hb, hml, hown, hts, -, -⟩ := id C
  have hl : lv_has ls 5 [(0, .ref h0), (1, .ref h1)] := hl
  have hI0 := hI
  have hF : fEq S S := fEq.rf
  have t_m1 : (-1 : Int32).toInt = -1 := by decide
  have t_0 : (0 : Int32).toInt = 0 := by decide
  have t_1 : (1 : Int32).toInt = 1 := by decide
  refine lv_aload_n hx hb dX2_measure_0 rfl (lv_at hl 1 rfl) ?_
  refine r_getN (ci := 5) (k := 1) (v := .int (mI S 501 h1)) C hM kh1 f_X2_48 rfl dX2_measure_1 ?_
  refine lv_topi (fun x1 ex1 => ?_)
  have fx1 := NI.f501 hI.2 kh1
  rw [← ex1] at fx1
  refine lv_aload_n hx hb dX2_measure_4 rfl (lv_at hl 1 rfl) ?_
  refine r_getN (ci := 5) (k := 9) (v := .int (mI S 509 h1)) C hM kh1 f_X2_52 rfl dX2_measure_5 ?_
  refine lv_topi (fun x2 ex2 => ?_)
  have fx2 := NI.f509 hI.2 kh1
  rw [← ex2] at fx2
  refine lv_iadd hx hb dX2_measure_8 ?_
  refine lv_topi (fun x3 ex3 => ?_)
  try (have tx3 := addI (a := x1) (b := x2) (by omega) (by omega); rw [← ex3] at tx3)
  refine lv_istore_n (lv' := [(2, .int x3), (0, .ref h0), (1, .ref h1)]) hx hb dX2_measure_9 rfl hl (by decide) rfl (fun ls hl => ?_)
  refine lv_aload_n hx hb dX2_measure_10 rfl (lv_at hl 1 rfl) ?_
  refine r_get (ci := 2) (k := 3) C hM kh0 f_X2_19 rfl dX2_measure_11 ?_
  obtain ⟨r4, er4, kr4⟩ : ∃ r : Option Nat, mR S 203 h0 = r ∧ ∀ q, r = some q → mK S q = 5 := ⟨_, rfl, TI.opt hI.1 (ci := 2) (k := 3) kh0⟩
  refine W.eq (g2 := F0 m 14 ls [va_rf r4]) (by rw [← er4]; rfl) ?_
  cases r4 with
  | none =>
    refine lv_ifnullN (tgt := 47) hx hb dX2_measure_14 (by decide) ?_
    exact r_retV C hr hlk hM (⟨rfl, rfl, hF, trivial⟩) dX2_measure_47
  | some q5 =>
    have kq5 : mK S q5 = 5 := kr4 q5 rfl
    refine lv_ifnull hx hb dX2_measure_14 ?_
    refine lv_aload_n hx hb dX2_measure_17 rfl (lv_at hl 1 rfl) ?_
    refine r_get (ci := 2) (k := 4) C hM kh0 f_X2_23 rfl dX2_measure_18 ?_
    obtain ⟨r6, er6, kr6⟩ : ∃ r : Option Nat, mR S 204 h0 = r ∧ ∀ q, r = some q → mK S q = 5 := ⟨_, rfl, TI.opt hI.1 (ci := 2) (k := 4) kh0⟩
    refine W.eq (g2 := F0 m 21 ls [va_rf r6]) (by rw [← er6]; rfl) ?_
    cases r6 with
    | none =>
      refine lv_ifnullN (tgt := 47) hx hb dX2_measure_21 (by decide) ?_
      exact r_retV C hr hlk hM (⟨rfl, rfl, hF, trivial⟩) dX2_measure_47
    | some q7 =>
      have kq7 : mK S q7 = 5 := kr6 q7 rfl
      refine lv_ifnull hx hb dX2_measure_21 ?_
      refine lv_iload_n hx hb dX2_measure_24 rfl (lv_at hl 0 rfl) ?_
      refine lv_aload_n hx hb dX2_measure_25 rfl (lv_at hl 1 rfl) ?_
      refine r_get (ci := 2) (k := 3) (v := .ref q5) C hM kh0 f_X2_19 (congrArg va_rf (er4)) dX2_measure_26 ?_
      refine r_getN (ci := 4) (k := 1) (v := .int (mI S 401 q5)) C hM kq5 f_X2_55 rfl dX2_measure_29 ?_
      refine lv_topi (fun x8 ex8 => ?_)
      have fx8 := NI.f401 hI.2 kq5
      rw [← ex8] at fx8
      refine lv_icmp_ge (tgt := 47) hx hb dX2_measure_32 (by decide) (fun c9 => ?_) (fun c9 => ?_)
      · have tc9 := leT c9
        exact r_retV C hr hlk hM (⟨rfl, rfl, hF, trivial⟩) dX2_measure_47
      · have tc9 := leF c9
        refine lv_aload_n hx hb dX2_measure_35 rfl (lv_at hl 1 rfl) ?_
        obtain ⟨q10, eq10, kq10, nq10⟩ := TI.nn hI.1 (ci := 2) (k := 2) kh0
        refine r_get (ci := 2) (k := 2) (v := .ref q10) C hM kh0 f_X2_15 (congrArg va_rf eq10) dX2_measure_36 ?_
        refine lv_aload_n hx hb dX2_measure_39 rfl (lv_at hl 2 rfl) ?_
        refine r_getN (ci := 5) (k := 1) (v := .int (mI S 501 h1)) C hM kh1 f_X2_48 rfl dX2_measure_40 ?_
        refine lv_topi (fun x11 ex11 => ?_)
        have fx11 := NI.f501 hI.2 kh1
        rw [← ex11] at fx11
        have gx11 : x11 = x1 := ex11.trans (ex1.symm)
        have hx11 : x11.toInt = x1.toInt := by rw [gx11]
        refine r_zald C hM kq10 (inI (by omega) (by rw [nq10 (by decide)]; show _ < (60 : Int); omega)) dX2_measure_43 ?_
        refine lv_topi (fun x12 ex12 => ?_)
        refine lv_if_eq (tgt := 48) hx hb dX2_measure_44 (by decide) (fun c13 => ?_) (fun c13 => ?_)
        · have tc13 := eqT c13
          refine lv_iload_n hx hb dX2_measure_48 rfl (lv_at hl 0 rfl) ?_
          refine lv_istore_n (lv' := [(3, .int x3), (2, .int x3), (0, .ref h0), (1, .ref h1)]) hx hb dX2_measure_49 rfl hl (by decide) rfl (fun ls hl => ?_)
          have hFa50 := hF
          have loop50 : ∀ (fu : Nat) (j : Int32) (Sa : Mem) (H : Heap) (locs : List Loc) (ls : Array Slot), (fEq S Sa) → (-1 ≤ j.toInt ∧ j.toInt < 60) → (j.toInt + 1).toNat < fu → lv_has ls 5 [(0, .ref h0), (1, .ref h1), (2, .int x3), (3, .int j)] → mH D H0 Sa kc ns H locs → W p l e ({ frames := 4, cells := 0, slots := 0, locals := 98 } : Room) s m args below meth c H locs 0 0 (MQ below (mQ D H0 gV (fun r S1 k1 n1 => kc = k1 ∧ ns = n1 ∧ fEq S S1 ∧ True)) args s 0 0 (mF H0)) (F0 m 50 ls []) := by
            intro fu
            induction fu with
            | zero => intro j Sa H locs ls h50_0 h50_1 hfu; exact absurd hfu (by omega)
            | succ fu ih50 =>
              intro j Sa H locs ls h50_0 h50_1 hfu hl hM
              have hF := h50_0
              have hI := hI0.fe hF
              have kh0 : mK Sa h0 = 3 := (congrFun (hF.1.trans hFa50.1.symm) h0).trans kh0
              have kh1 : mK Sa h1 = 6 := (congrFun (hF.1.trans hFa50.1.symm) h1).trans kh1
              have kq5 : mK Sa q5 = 5 := (congrFun (hF.1.trans hFa50.1.symm) q5).trans kq5
              have kq7 : mK Sa q7 = 5 := (congrFun (hF.1.trans hFa50.1.symm) q7).trans kq7
              have v14 : mR Sa 203 h0 = some q5 := ((congrFun (congrFun hF.2.1 203) h0).trans (congrFun (congrFun hFa50.2.1 203) h0).symm).trans (er4)
              have v15 : mR Sa 204 h0 = some q7 := ((congrFun (congrFun hF.2.1 204) h0).trans (congrFun (congrFun hFa50.2.1 204) h0).symm).trans (er6)
              refine lv_iload_n hx hb dX2_measure_50 rfl (lv_at hl 3 rfl) ?_
              refine lv_aload_n hx hb dX2_measure_51 rfl (lv_at hl 1 rfl) ?_
              refine r_getN (ci := 5) (k := 1) (v := .int (mI Sa 501 h1)) C hM kh1 f_X2_48 rfl dX2_measure_52 ?_
              refine lv_topi (fun x16 ex16 => ?_)
              have fx16 := NI.f501 hI.2 kh1
              rw [← ex16] at fx16
              refine lv_icmp_lt (tgt := 110) hx hb dX2_measure_55 (by decide) (fun c17 => ?_) (fun c17 => ?_)
              · have tc17 := ltT c17
                refine lv_aload_n hx hb dX2_measure_110 rfl (lv_at hl 1 rfl) ?_
                refine r_getN (ci := 5) (k := 1) (v := .int (mI Sa 501 h1)) C hM kh1 f_X2_48 rfl dX2_measure_111 ?_
                refine lv_topi (fun x18 ex18 => ?_)
                have fx18 := NI.f501 hI.2 kh1
                rw [← ex18] at fx18
                have gx18 : x18 = x16 := ex18.trans (ex16.symm)
                have hx18 : x18.toInt = x16.toInt := by rw [gx18]
                refine lv_istore_n (lv' := [(3, .int x18), (0, .ref h0), (1, .ref h1), (2, .int x3)]) hx hb dX2_measure_114 rfl hl (by decide) rfl (fun ls hl => ?_)
                have hFa115 := hF
                have loop115 : ∀ (fu : Nat) (j2 : Int32) (Sb : Mem) (H : Heap) (locs : List Loc) (ls : Array Slot), (fEq S Sb) → (0 ≤ j2.toInt) → (60 - j2.toInt).toNat < fu → lv_has ls 5 [(0, .ref h0), (1, .ref h1), (2, .int x3), (3, .int j2)] → mH D H0 Sb kc ns H locs → W p l e ({ frames := 4, cells := 0, slots := 0, locals := 98 } : Room) s m args below meth c H locs 0 0 (MQ below (mQ D H0 gV (fun r S1 k1 n1 => kc = k1 ∧ ns = n1 ∧ fEq S S1 ∧ True)) args s 0 0 (mF H0)) (F0 m 115 ls []) := by
                  intro fu
                  induction fu with
                  | zero => intro j2 Sb H locs ls h115_0 h115_1 hfu; exact absurd hfu (by omega)
                  | succ fu ih115 =>
                    intro j2 Sb H locs ls h115_0 h115_1 hfu hl hM
                    have hF := h115_0
                    have hI := hI0.fe hF
                    have kh0 : mK Sb h0 = 3 := (congrFun (hF.1.trans hFa115.1.symm) h0).trans kh0
                    have kh1 : mK Sb h1 = 6 := (congrFun (hF.1.trans hFa115.1.symm) h1).trans kh1
                    have kq5 : mK Sb q5 = 5 := (congrFun (hF.1.trans hFa115.1.symm) q5).trans kq5
                    have kq7 : mK Sb q7 = 5 := (congrFun (hF.1.trans hFa115.1.symm) q7).trans kq7
                    have v19 : mR Sb 203 h0 = some q5 := ((congrFun (congrFun hF.2.1 203) h0).trans (congrFun (congrFun hFa115.2.1 203) h0).symm).trans (v14)
                    have v20 : mR Sb 204 h0 = some q7 := ((congrFun (congrFun hF.2.1 204) h0).trans (congrFun (congrFun hFa115.2.1 204) h0).symm).trans (v15)
                    refine lv_iload_n hx hb dX2_measure_115 rfl (lv_at hl 3 rfl) ?_
                    refine lv_iload_n hx hb dX2_measure_116 rfl (lv_at hl 2 rfl) ?_
                    refine lv_icmp_gt (tgt := 133) hx hb dX2_measure_117 (by decide) (fun c21 => ?_) (fun c21 => ?_)
                    · have tc21 := ltT c21
                      exact r_retV C hr hlk hM (⟨rfl, rfl, hF, trivial⟩) dX2_measure_133
                    · have tc21 := ltF c21
                      refine lv_aload_n hx hb dX2_measure_120 rfl (lv_at hl 0 rfl) ?_
                      obtain ⟨q22, eq22, kq22, nq22⟩ := TI.nn hI.1 (ci := 2) (k := 2) kh0
                      refine r_get (ci := 2) (k := 2) (v := .ref q22) C hM kh0 f_X2_15 (congrArg va_rf eq22) dX2_measure_121 ?_
                      refine lv_iload_n hx hb dX2_measure_124 rfl (lv_at hl 3 rfl) ?_
                      refine lv_iconst (v := 1) hx hb dX2_measure_125 (by decide) ?_
                      refine r_zast C hM kq22 (inI (by omega) (by rw [nq22 (by decide)]; show _ < (60 : Int); omega)) dX2_measure_126 (fun H locs hM => ?_)
                      have hM : mH D H0 (qI Sb q22 j2.toNatClampNeg (vp_nar .boolean 1)) kc ns H locs := hM
                      have hI := hI.fe (fEq.AI (S := Sb) (a := q22) (i := j2.toNatClampNeg) (v := (vp_nar .boolean 1)))
                      have hF := hF.trans (fEq.AI (S := Sb) (a := q22) (i := j2.toNatClampNeg) (v := (vp_nar .boolean 1)))
                      obtain ⟨x23, ex23⟩ : ∃ y : Int32, y = j2 + 1 := ⟨_, rfl⟩
                      try (have tx23 := addI (a := j2) (b := 1) (by omega) (by omega); rw [← ex23] at tx23)
                      refine lv_iinc (v := x23) (lv' := [(3, .int x23), (0, .ref h0), (1, .ref h1), (2, .int x3)]) hx hb dX2_measure_127 hl (k := 3) rfl (by rw [ex23]; rfl) (by decide) rfl (fun ls hl => ?_)
                      refine lv_goto (tgt := 115) hx hb dX2_measure_130 (by decide) ?_
                      exact ih115 x23 (qI Sb q22 j2.toNatClampNeg (vp_nar .boolean 1)) _ _ _ (hF) (by omega) (by omega) (lv_sub hl [1, 2, 3, 0] rfl) hM
                exact loop115 (((60 - x18.toInt).toNat) + 1) x18 Sa _ _ _ (hF) (by omega) (by omega) (lv_sub hl [1, 2, 3, 0] rfl) hM
              · have tc17 := ltF c17
                refine lv_aload_n hx hb dX2_measure_58 rfl (lv_at hl 0 rfl) ?_
                refine r_get (ci := 2) (k := 3) (v := .ref q5) C hM kh0 f_X2_19 (congrArg va_rf (v14)) dX2_measure_59 ?_
                refine lv_iload_n hx hb dX2_measure_62 rfl (lv_at hl 3 rfl) ?_
                refine r_VN (As := [.int j]) (rest := []) (ci := 4) C hM (c_X4_at l D H0 Sa kc ns q5 j hI id kq5) i_X4_at m_X2_60 kq5 rfl rfl rfl hl.1 rfl (Nat.le_of_ble_eq_true rfl) ⟨by decide, by decide⟩ ⟨by decide, by decide⟩ dX2_measure_63 (fun r27 S24 k25 n26 H locs p28 hM => ?_)
                obtain ⟨rfl, rfl, rfl, kr27⟩ := p28
                refine W.eq (g2 := F0 m 66 ls [va_rf r27]) rfl ?_
                refine lv_astoreQ (lv' := [(4, va_rf r27), (0, .ref h0), (1, .ref h1), (2, .int x3), (3, .int j)]) hx hb dX2_measure_66 hl (by decide) rfl (fun ls hl => ?_)
                refine lv_aloadQ hx hb dX2_measure_68 (lv_at hl 0 rfl) ?_
                cases r27 with
                | none =>
                  refine lv_ifnullN (tgt := 104) hx hb dX2_measure_70 (by decide) ?_
                  obtain ⟨x30, ex30⟩ : ∃ y : Int32, y = j + (-1) := ⟨_, rfl⟩
                  try (have tx30 := addI (a := j) (b := (-1)) (by omega) (by omega); rw [← ex30] at tx30)
                  refine lv_iinc (v := x30) (lv' := [(3, .int x30), (4, .null), (0, .ref h0), (1, .ref h1), (2, .int x3)]) hx hb dX2_measure_104 hl (k := 4) rfl (by rw [ex30]; rfl) (by decide) rfl (fun ls hl => ?_)
                  refine lv_goto (tgt := 50) hx hb dX2_measure_107 (by decide) ?_
                  exact ih50 x30 Sa _ _ _ (hF) (by omega) (by omega) (lv_sub hl [2, 3, 4, 0] rfl) hM
                | some q29 =>
                  have kq29 : mK Sa q29 = 6 := kr27 q29 rfl
                  refine lv_ifnull hx hb dX2_measure_70 ?_
                  refine lv_aload_n hx hb dX2_measure_73 rfl (lv_at hl 1 rfl) ?_
                  obtain ⟨q31, eq31, kq31, nq31⟩ := TI.nn hI.1 (ci := 2) (k := 2) kh0
                  refine r_get (ci := 2) (k := 2) (v := .ref q31) C hM kh0 f_X2_15 (congrArg va_rf eq31) dX2_measure_74 ?_
                  refine lv_iload_n hx hb dX2_measure_77 rfl (lv_at hl 4 rfl) ?_
                  refine r_zald C hM kq31 (inI (by omega) (by rw [nq31 (by decide)]; show _ < (60 : Int); omega)) dX2_measure_78 ?_
                  refine lv_topi (fun x32 ex32 => ?_)
                  refine lv_if_ne (tgt := 104) hx hb dX2_measure_79 (by decide) (fun c33 => ?_) (fun c33 => ?_)
                  · have tc33 := eqF c33
                    obtain ⟨x34, ex34⟩ : ∃ y : Int32, y = j + (-1) := ⟨_, rfl⟩
                    try (have tx34 := addI (a := j) (b := (-1)) (by omega) (by omega); rw [← ex34] at tx34)
                    refine lv_iinc (v := x34) (lv' := [(3, .int x34), (4, .ref q29), (0, .ref h0), (1, .ref h1), (2, .int x3)]) hx hb dX2_measure_104 hl (k := 4) rfl (by rw [ex34]; rfl) (by decide) rfl (fun ls hl => ?_)
                    refine lv_goto (tgt := 50) hx hb dX2_measure_107 (by decide) ?_
                    exact ih50 x34 Sa _ _ _ (hF) (by omega) (by omega) (lv_sub hl [2, 3, 4, 0] rfl) hM
                  · have tc33 := eqT c33
                    refine lv_aload hx hb dX2_measure_82 (lv_at hl 0 rfl) ?_
                    refine r_getN (ci := 5) (k := 8) C hM kq29 f_X2_45 rfl dX2_measure_84 ?_
                    obtain ⟨r35, er35, kr35⟩ : ∃ r : Option Nat, mR Sa 508 q29 = r ∧ ∀ q, r = some q → mK Sa q = 6 := ⟨_, rfl, TI.opt hI.1 (ci := 5) (k := 8) kq29⟩
                    refine W.eq (g2 := F0 m 87 ls [va_rf r35]) (by rw [← er35]; rfl) ?_
                    cases r35 with
                    | none =>
                      refine lv_ifnonnullN hx hb dX2_measure_87 ?_
                      refine lv_iload_n hx hb dX2_measure_90 rfl (lv_at hl 4 rfl) ?_
                      refine lv_aload_n hx hb dX2_measure_91 rfl (lv_at hl 2 rfl) ?_
                      refine r_getN (ci := 5) (k := 1) (v := .int (mI Sa 501 h1)) C hM kh1 f_X2_48 rfl dX2_measure_92 ?_
                      refine lv_topi (fun x37 ex37 => ?_)
                      have fx37 := NI.f501 hI.2 kh1
                      rw [← ex37] at fx37
                      have gx37 : x37 = x16 := ex37.trans (ex16.symm)
                      have hx37 : x37.toInt = x16.toInt := by rw [gx37]
                      refine lv_icmp_ne (tgt := 104) hx hb dX2_measure_95 (by decide) (fun c38 => ?_) (fun c38 => ?_)
                      · have tc38 := eqF c38
                        obtain ⟨x39, ex39⟩ : ∃ y : Int32, y = j + (-1) := ⟨_, rfl⟩
                        try (have tx39 := addI (a := j) (b := (-1)) (by omega) (by omega); rw [← ex39] at tx39)
                        refine lv_iinc (v := x39) (lv' := [(3, .int x39), (4, .ref q29), (0, .ref h0), (1, .ref h1), (2, .int x3)]) hx hb dX2_measure_104 hl (k := 4) rfl (by rw [ex39]; rfl) (by decide) rfl (fun ls hl => ?_)
                        refine lv_goto (tgt := 50) hx hb dX2_measure_107 (by decide) ?_
                        exact ih50 x39 Sa _ _ _ (hF) (by omega) (by omega) (lv_sub hl [2, 3, 4, 0] rfl) hM
                      · have tc38 := eqT c38
                        refine lv_aload_n hx hb dX2_measure_98 rfl (lv_at hl 1 rfl) ?_
                        refine lv_aload hx hb dX2_measure_99 (lv_at hl 0 rfl) ?_
                        refine r_V (As := [.ref q29]) (rest := []) (ci := 2) C hM (c_X2_measureKey l D H0 Sa kc ns h0 q29 hI q5 q7 hu v14 v15 kq5 kq7 kh0 kq29) i_X2_measureKey m_X2_64 kh0 rfl rfl rfl hl.1 rfl (Nat.le_of_ble_eq_true rfl) ⟨by decide, by decide⟩ ⟨by decide, by decide⟩ dX2_measure_101 (fun u43 S40 k41 n42 H locs p44 hM => ?_)
                        obtain ⟨rfl, rfl, hf9, hu43⟩ := p44
                        have hF := hF.trans hf9
                        have hI := hI.fe hf9
                        have kq29 : mK S40 q29 = 6 := (congrFun (hf9.1) q29).trans kq29
                        have kh0 : mK S40 h0 = 3 := (congrFun (hf9.1) h0).trans kh0
                        have kh1 : mK S40 h1 = 6 := (congrFun (hf9.1) h1).trans kh1
                        have kq5 : mK S40 q5 = 5 := (congrFun (hf9.1) q5).trans kq5
                        have kq7 : mK S40 q7 = 5 := (congrFun (hf9.1) q7).trans kq7
                        have v45 : mR S40 203 h0 = some q5 := (congrFun (congrFun hf9.2.1 203) h0).trans (v14)
                        have v46 : mR S40 204 h0 = some q7 := (congrFun (congrFun hf9.2.1 204) h0).trans (v15)
                        refine W.eq (g2 := F0 m 104 ls []) rfl ?_
                        obtain ⟨x47, ex47⟩ : ∃ y : Int32, y = j + (-1) := ⟨_, rfl⟩
                        try (have tx47 := addI (a := j) (b := (-1)) (by omega) (by omega); rw [← ex47] at tx47)
                        refine lv_iinc (v := x47) (lv' := [(3, .int x47), (4, .ref q29), (0, .ref h0), (1, .ref h1), (2, .int x3)]) hx hb dX2_measure_104 hl (k := 4) rfl (by rw [ex47]; rfl) (by decide) rfl (fun ls hl => ?_)
                        refine lv_goto (tgt := 50) hx hb dX2_measure_107 (by decide) ?_
                        exact ih50 x47 S40 _ _ _ (hF) (by omega) (by omega) (lv_sub hl [2, 3, 4, 0] rfl) hM
                    | some q36 =>
                      have kq36 : mK Sa q36 = 6 := kr35 q36 rfl
                      refine lv_ifnonnull (tgt := 98) hx hb dX2_measure_87 (by decide) ?_
                      refine lv_aload_n hx hb dX2_measure_98 rfl (lv_at hl 1 rfl) ?_
                      refine lv_aload hx hb dX2_measure_99 (lv_at hl 0 rfl) ?_
                      refine r_V (As := [.ref q29]) (rest := []) (ci := 2) C hM (c_X2_measureKey l D H0 Sa kc ns h0 q29 hI q5 q7 hu v14 v15 kq5 kq7 kh0 kq29) i_X2_measureKey m_X2_64 kh0 rfl rfl rfl hl.1 rfl (Nat.le_of_ble_eq_true rfl) ⟨by decide, by decide⟩ ⟨by decide, by decide⟩ dX2_measure_101 (fun u51 S48 k49 n50 H locs p52 hM => ?_)
                      obtain ⟨rfl, rfl, hf9, hu51⟩ := p52
                      have hF := hF.trans hf9
                      have hI := hI.fe hf9
                      have kq29 : mK S48 q29 = 6 := (congrFun (hf9.1) q29).trans kq29
                      have kh0 : mK S48 h0 = 3 := (congrFun (hf9.1) h0).trans kh0
                      have kh1 : mK S48 h1 = 6 := (congrFun (hf9.1) h1).trans kh1
                      have kq5 : mK S48 q5 = 5 := (congrFun (hf9.1) q5).trans kq5
                      have kq7 : mK S48 q7 = 5 := (congrFun (hf9.1) q7).trans kq7
                      have kq36 : mK S48 q36 = 6 := (congrFun (hf9.1) q36).trans kq36
                      have v53 : mR S48 203 h0 = some q5 := (congrFun (congrFun hf9.2.1 203) h0).trans (v14)
                      have v54 : mR S48 204 h0 = some q7 := (congrFun (congrFun hf9.2.1 204) h0).trans (v15)
                      have v55 : mR S48 508 q29 = some q36 := (congrFun (congrFun hf9.2.1 508) q29).trans (er35)
                      refine W.eq (g2 := F0 m 104 ls []) rfl ?_
                      obtain ⟨x56, ex56⟩ : ∃ y : Int32, y = j + (-1) := ⟨_, rfl⟩
                      try (have tx56 := addI (a := j) (b := (-1)) (by omega) (by omega); rw [← ex56] at tx56)
                      refine lv_iinc (v := x56) (lv' := [(3, .int x56), (4, .ref q29), (0, .ref h0), (1, .ref h1), (2, .int x3)]) hx hb dX2_measure_104 hl (k := 4) rfl (by rw [ex56]; rfl) (by decide) rfl (fun ls hl => ?_)
                      refine lv_goto (tgt := 50) hx hb dX2_measure_107 (by decide) ?_
                      exact ih50 x56 S48 _ _ _ (hF) (by omega) (by omega) (lv_sub hl [2, 3, 4, 0] rfl) hM
          exact loop50 (((x3.toInt + 1).toNat) + 1) x3 S _ _ _ (hF) (by omega) (by omega) (lv_sub hl [2, 3, 1, 0] rfl) hM
        · have tc13 := eqF c13
          exact r_retV C hr hlk hM (⟨rfl, rfl, hF, trivial⟩) dX2_measure_47
