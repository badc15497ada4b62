set_option maxHeartbeats 4000000 in
set_option maxRecDepth 100000 in
theorem c_X6_goUp (l : Launch) (D : gD) (H0 : gB) (S : Mem) (kc ns : Nat) (h0 : Nat) {u : Nat} {tl : Int} {rho : Nat × Nat} (hI : CI x0 u tl rho S) (kh0 : mK S h0 = 7) : Met l yX6_goUp (wsU yX6_goUp cX6_goUp 1 (some .boolean)) ({ frames := 1, cells := 0, slots := 0, locals := 22 } : Room) (mP D H0 S kc ns [.ref h0]) (mQ D H0 gI (fun r S1 k1 n1 => kc = k1 ∧ ns = n1 ∧ mK S1 = mK S ∧ CI x0 u tl rho S1 ∧ (mI S1 401 = mI S 401) ∧ (∀ pg, RD S h0 pg → RD S1 h0 pg) ∧ (r = 0 ∨ r = 1))) 0 0 (mF H0) := by
  refine r_met (own := RX6) (by decide +kernel) rfl (Nat.le_of_ble_eq_true rfl) ?_
  intro p e s m args below meth c C hr hlk hnm H ls hl hM
  obtain ⟨hx, hb, hml, hown, hts, -, -⟩ := id C
  have hl : lv_has ls 1 [(0, .ref h0)] := hl
  have hI0 := hI
  have hK9 : mK S = mK S := rfl
  have t_0 : (0 : Int32).toInt = 0 := by decide
  have t_1 : (1 : Int32).toInt = 1 := by decide
  have t_6 : (6 : Int32).toInt = 6 := by decide
  refine lv_aload_n hx hb dX6_goUp_0 rfl (lv_at hl 0 rfl) ?_
  refine r_get (ci := 6) (k := 4) C hM kh0 f_X6_21 rfl dX6_goUp_1 ?_
  obtain ⟨rv1, erv1, krv1⟩ : ∃ r : Option Nat, mR S 604 h0 = r ∧ ∀ q, r = some q → mK S q = 6 := ⟨_, rfl, TI.opt hI.1 (ci := 6) (k := 4) kh0⟩
  refine W.eq (g2 := F0 m 4 ls [va_rf rv1]) (by rw [← erv1]; rfl) ?_
  cases rv1 with
  | none =>
    refine lv_ifnullN (tgt := 18) hx hb dX6_goUp_4 (by decide) ?_
    refine lv_iconst (v := 0) hx hb dX6_goUp_18 (by decide) ?_
    exact r_retZ C hr hlk rfl hM (by first | exact ⟨rfl, rfl, hK9, hI, rfl, fun _ h => h, by decide⟩ | exact ⟨rfl, rfl, hK9, hI, hf9.2.2.2.2 401 (by decide), fun pg h => h.fe hf9, by decide⟩) dX6_goUp_19
  | some qv2 =>
    have kqv2 : mK S qv2 = 6 := krv1 qv2 rfl
    refine lv_ifnull hx hb dX6_goUp_4 ?_
    refine lv_aload_n hx hb dX6_goUp_7 rfl (lv_at hl 0 rfl) ?_
    refine lv_bipush (v := 6) hx hb dX6_goUp_8 (by decide) ?_
    refine lv_bipush (v := 6) hx hb dX6_goUp_10 (by decide) ?_
    refine r_V (As := [.int 6, .int 6]) (rest := []) (ci := 6) C hM (c_X6_move l D H0 S kc ns h0 6 6 hI kh0) i_X6_move m_X6_63 kh0 rfl rfl rfl hl.1 rfl (Nat.le_of_ble_eq_true rfl) ⟨by decide, by decide⟩ ⟨by decide, by decide⟩ dX6_goUp_12 (fun xv6 Sv3 kv4 nv5 H locs pv7 hM => ?_)
    obtain ⟨rfl, rfl, hf9, hmz, hmv⟩ := pv7
    have hK9 := hf9.1.trans hK9
    have hI := hI.fe hf9
    have kh0 : mK Sv3 h0 = 7 := (congrFun (hf9.1) h0).trans kh0
    have kqv2 : mK Sv3 qv2 = 6 := (congrFun (hf9.1) qv2).trans kqv2
    have vv8 : mR Sv3 604 h0 = some qv2 := (congrFun (congrFun hf9.2.1 604) h0).trans (erv1)
    refine W.eq (g2 := F0 m 15 ls [.int xv6]) rfl ?_
    have hxv6 := hmz
    refine lv_if_ne (tgt := 20) hx hb dX6_goUp_15 (by decide) (fun cv9 => ?_) (fun cv9 => ?_)
    · have tcv9 := eqF cv9
      have h20 := hf9
      refine lv_aload_n hx hb dX6_goUp_20 rfl (lv_at hl 0 rfl) ?_
      refine lv_aload_n hx hb dX6_goUp_21 rfl (lv_at hl 0 rfl) ?_
      refine r_get (ci := 6) (k := 4) (v := .ref qv2) C hM kh0 f_X6_21 (congrArg va_rf (vv8)) dX6_goUp_22 ?_
      refine r_put C hM kh0 f_X6_25 (fun r h => by cases h; rfl) rfl rfl (mPut.Rf (ci := 6) (k := 5) (x := (some qv2)) rfl) dX6_goUp_25 (fun H locs hM => ?_)
      have hM : mH D H0 (pR Sv3 605 h0 (some qv2)) kc ns H locs := hM
      have hI : CI x0 u tl rho (pR Sv3 605 h0 (some qv2)) := CI.putR (ci := 6) (k := 5) hI kh0 (fun z h => by cases h; exact ⟨kqv2, fun h => absurd rfl h⟩) (Or.inl rfl) (by decide) (by decide) (by decide)
      refine lv_aload_n hx hb dX6_goUp_28 rfl (lv_at hl 0 rfl) ?_
      refine lv_aload_n hx hb dX6_goUp_29 rfl (lv_at hl 0 rfl) ?_
      refine r_get (ci := 6) (k := 4) (v := .ref qv2) C hM kh0 f_X6_21 (congrArg va_rf (vv8)) dX6_goUp_30 ?_
      have kO9 := kqv2
      have eO9 := vv8
      have hI9 := hI
      refine r_getN (ci := 5) (k := 3) C hM kqv2 f_X6_114 rfl dX6_goUp_33 ?_
      obtain ⟨rv10, erv10, krv10⟩ : ∃ r : Option Nat, mR (pR Sv3 605 h0 (some qv2)) 503 qv2 = r ∧ ∀ q, r = some q → mK (pR Sv3 605 h0 (some qv2)) q = 6 := ⟨_, rfl, TI.opt hI.1 (ci := 5) (k := 3) kqv2⟩
      refine W.eq (g2 := F0 m 36 ls [va_rf rv10, .ref h0]) (by rw [← erv10]; rfl) ?_
      have eP9 := erv10
      refine r_put C hM kh0 f_X6_21 (fun r h => by cases h; rfl) (by cases rv10 <;> rfl) (by cases rv10 <;> rfl) (mPut.Rf (ci := 6) (k := 4) (x := rv10) rfl) dX6_goUp_36 (fun H locs hM => ?_)
      have hM : mH D H0 (pR (pR Sv3 605 h0 (some qv2)) 604 h0 rv10) kc ns H locs := hM
      have hI : CI x0 u tl rho (pR (pR Sv3 605 h0 (some qv2)) 604 h0 rv10) := CI.putR (ci := 6) (k := 4) hI kh0 (fun z h => ⟨krv10 z h, fun h => absurd rfl h⟩) (Or.inl rfl) (by decide) (by decide) (by decide)
      refine lv_iconst (v := 1) hx hb dX6_goUp_39 (by decide) ?_
      exact r_retZ C hr hlk rfl hM (⟨rfl, rfl, hK9, hI, h20.2.2.2.2 401 (by decide), fun pg h => RD.p604 (RD.p605 (h.fe h20) (fun z e => by cases e; exact (h.fe h20).1 _ eO9)) (fun z e => Int.lt_trans (NI.f503 hI9.2 kO9 (eP9.trans e)) ((h.fe h20).1 _ eO9)), by decide⟩) dX6_goUp_40
    · have tcv9 := eqT cv9
      refine lv_iconst (v := 0) hx hb dX6_goUp_18 (by decide) ?_
      exact r_retZ C hr hlk rfl hM (by first | exact ⟨rfl, rfl, hK9, hI, rfl, fun _ h => h, by decide⟩ | exact ⟨rfl, rfl, hK9, hI, hf9.2.2.2.2 401 (by decide), fun pg h => h.fe hf9, by decide⟩) dX6_goUp_19
set_option maxHeartbeats 4000000 in
set_option maxRecDepth 100000 in
theorem c_X6_takeKind (l : Launch) (D : gD) (H0 : gB) (S : Mem) (kc ns : Nat) (h0 h1 : Nat) {u : Nat} {tl : Int} {rho : Nat × Nat} (hI : CI x0 u tl rho S) (hu : u < 2000000000) (kh0 : mK S h0 = 7) (kh1 : mK S h1 = 5) (hrd : RD S h0 h1) : Met l yX6_takeKind (wsU yX6_takeKind cX6_takeKind 3 (some .boolean)) ({ frames := 3, cells := 1, slots := 17, locals := 74 } : Room) (mP D H0 S kc ns [.ref h0, .ref h1]) (mQ D H0 gI (fun r S1 k1 n1 => mX S S1 ∧ CI x0 (u + 61) tl rho S1 ∧ RD S1 h0 h1 ∧ ((k1 : Int) - kc = (mI S1 401 h1).toInt - (mI S 401 h1).toInt ∧ (n1 : Int) - ns = 17 * ((mI S1 401 h1).toInt - (mI S 401 h1).toInt)) ∧ (r = 0 ∨ r = 1))) 1 17 (mF H0) := by
  refine r_met (own := RX6) (by decide +kernel) rfl (Nat.le_of_ble_eq_true rfl) ?_
  intro p e s m args below meth c C hr hlk hnm H ls hl hM
  obtain ⟨hx, hb, hml, hown, hts, -, -⟩ := id C
  have hl : lv_has ls 3 [(0, .ref h0), (1, .ref h1)] := hl
  have hI0 := hI
  have hX : mX S S := mX.rf
  have t_0 : (0 : Int32).toInt = 0 := by decide
  have t_1 : (1 : Int32).toInt = 1 := by decide
  have t_2 : (2 : Int32).toInt = 2 := by decide
  have t_11 : (11 : Int32).toInt = 11 := by decide
  have t_60 : (60 : Int32).toInt = 60 := by decide
  have kh0a := kh0
  refine lv_aload_n hx hb dX6_takeKind_0 rfl (lv_at hl 0 rfl) ?_
  refine r_get (ci := 6) (k := 3) (v := .int (mI S 603 h0)) C hM kh0 f_X6_18 rfl dX6_takeKind_1 ?_
  refine lv_topi (fun xv1 exv1 => ?_)
  refine lv_if_eq (tgt := 11) hx hb dX6_takeKind_4 (by decide) (fun cv2 => ?_) (fun cv2 => ?_)
  · have tcv2 := eqT cv2
    refine lv_iconst (v := 0) hx hb dX6_takeKind_11 (by decide) ?_
    refine lv_istore_n (lv' := [(2, .int 0), (0, .ref h0), (1, .ref h1)]) hx hb dX6_takeKind_12 rfl hl (by decide) rfl (fun ls hl => ?_)
    refine lv_iload_n hx hb dX6_takeKind_13 rfl (lv_at hl 0 rfl) ?_
    refine lv_if_eq (tgt := 26) hx hb dX6_takeKind_14 (by decide) (fun cv3 => ?_) (fun cv3 => ?_)
    · have tcv3 := eqT cv3
      refine lv_aload_n hx hb dX6_takeKind_26 rfl (lv_at hl 2 rfl) ?_
      refine r_getN (ci := 4) (k := 1) (v := .int (mI S 401 h1)) C hM kh1 f_X6_79 rfl dX6_takeKind_27 ?_
      refine lv_topi (fun xv4 exv4 => ?_)
      have fxv4 := NI.g401 hI.2 kh1 exv4
      refine lv_bipush (v := 60) hx hb dX6_takeKind_30 (by decide) ?_
      refine lv_icmp_ge (tgt := 54) hx hb dX6_takeKind_32 (by decide) (fun cv5 => ?_) (fun cv5 => ?_)
      · have tcv5 := leT cv5
        refine lv_iconst (v := 0) hx hb dX6_takeKind_54 (by decide) ?_
        refine W.widen (k := 1) (n := 17) (by first | decide | omega) (by first | decide | omega) ?_
        exact r_retZ C hr hlk rfl hM (⟨mX.rf, CI.ccLe hI (by omega), hrd, ⟨by omega, by omega⟩, by decide⟩) dX6_takeKind_55
      · have tcv5 := leF cv5
        refine lv_aload_n hx hb dX6_takeKind_35 rfl (lv_at hl 1 rfl) ?_
        refine r_get (ci := 6) (k := 4) C hM kh0 f_X6_21 rfl dX6_takeKind_36 ?_
        obtain ⟨rv6, erv6, krv6⟩ : ∃ r : Option Nat, mR S 604 h0 = r ∧ ∀ q, r = some q → mK S q = 6 := ⟨_, rfl, TI.opt hI.1 (ci := 6) (k := 4) kh0⟩
        refine W.eq (g2 := F0 m 39 ls [va_rf rv6]) (by rw [← erv6]; rfl) ?_
        cases rv6 with
        | none =>
          refine lv_ifnullN (tgt := 56) hx hb dX6_takeKind_39 (by decide) ?_
          refine lv_aload_n hx hb dX6_takeKind_56 rfl (lv_at hl 1 rfl) ?_
          refine lv_aload_n hx hb dX6_takeKind_57 rfl (lv_at hl 2 rfl) ?_
          refine lv_aload_n hx hb dX6_takeKind_58 rfl (lv_at hl 1 rfl) ?_
          obtain ⟨qv8, eqv8, kqv8, nqv8⟩ := TI.nn hI.1 (ci := 6) (k := 0) kh0
          refine r_get (ci := 6) (k := 0) (v := .ref qv8) C hM kh0 f_X6_33 (congrArg va_rf eqv8) dX6_takeKind_59 ?_
          refine r_getN (ci := 10) (k := 4) (v := .long (mL S 1004 qv8)) C hM kqv8 f_X6_87 rfl dX6_takeKind_62 ?_
          refine lv_topl (fun lv9 elv9 => ?_)
          refine lv_aload_n hx hb dX6_takeKind_65 rfl (lv_at hl 1 rfl) ?_
          refine r_get (ci := 6) (k := 4) (v := .null) C hM kh0 f_X6_21 (congrArg va_rf (erv6)) dX6_takeKind_66 ?_
          refine lv_iload_n hx hb dX6_takeKind_69 rfl (lv_at hl 0 rfl) ?_
          refine lv_if_eq (tgt := 80) hx hb dX6_takeKind_70 (by decide) (fun cv10 => ?_) (fun cv10 => ?_)
          · have tcv10 := eqT cv10
            refine lv_null hx hb dX6_takeKind_80 ?_
            refine r_VN (As := [.long lv9, .null, .null]) (rest := [.ref h0]) (ci := 4) C hM (c_X4_add l D H0 S kc ns h1 lv9 none none hI hu kh1 (fun z h => by cases h) (fun z h => by cases h) (fun z h => by cases h) (fun z h => by cases h)) i_X4_add m_X6_91 kh1 rfl rfl rfl hl.1 rfl (Nat.le_of_ble_eq_true rfl) ⟨by decide, by decide⟩ ⟨by decide, by decide⟩ dX6_takeKind_81 (fun rv14 Sv11 kv12 nv13 H locs pv15 hM => ?_)
            obtain ⟨hx9, hI, hA3, hA4, hA5, hA6, hA7⟩ := pv15
            have kh0 : mK Sv11 h0 = 7 := (hx9).k kh0
            have kh1 : mK Sv11 h1 = 5 := (hx9).k kh1
            have hX := hX.trans hx9
            refine W.eq (g2 := F0 m 84 ls [va_rf rv14, .ref h0]) rfl ?_
            have krv14 : ∀ q, rv14 = some q → mK Sv11 q = 6 := fun q h => (hA7 q h).1
            refine r_put C hM kh0 f_X6_25 (fun r h => by cases h; rfl) (by cases rv14 <;> rfl) (by cases rv14 <;> rfl) (mPut.Rf (ci := 6) (k := 5) (x := rv14) rfl) dX6_takeKind_84 (fun H locs hM => ?_)
            have hM : mH D H0 (pR Sv11 605 h0 rv14) kv12 nv13 H locs := hM
            have hI : CI x0 (u + 61) tl rho (pR Sv11 605 h0 rv14) := CI.putR (ci := 6) (k := 5) hI kh0 (fun z h => ⟨krv14 z h, fun h => absurd rfl h⟩) (Or.inl rfl) (by decide) (by decide) (by decide)
            have hrd1 : RD (pR Sv11 605 h0 rv14) h0 h1 := ⟨fun q e => by have e2 : mR S 604 h0 = some q := (hA4 h0 kh0a).1.symm.trans e; have e3 := hrd.1 q e2; have e4 : mI (pR Sv11 605 h0 rv14) 501 q = mI S 501 q := hA3 q ((opt9 hI0 kh0a).1 e2); rw [e4]; exact Int.lt_of_lt_of_le e3 hA5, fun q e => by have e2 : rv14 = some q := (by simpa [mR, up2] using e); exact (hA7 q e2).2⟩
            refine lv_aload_n hx hb dX6_takeKind_87 rfl (lv_at hl 1 rfl) ?_
            refine lv_iconst (v := 2) hx hb dX6_takeKind_88 (by decide) ?_
            refine r_put C hM kh0 f_X6_18 (fun r h => by cases h; rfl) rfl rfl (mPut.I (ci := 6) (k := 3) rfl) dX6_takeKind_89 (fun H locs hM => ?_)
            have hM : mH D H0 (pI (pR Sv11 605 h0 rv14) 603 h0 2) kv12 nv13 H locs := hM
            have hI := hI.fe (fEq.I (S := (pR Sv11 605 h0 rv14)) (f := 603) (a := h0) (v := 2) (by decide))
            refine lv_iconst (v := 1) hx hb dX6_takeKind_92 (by decide) ?_
            refine W.widen (k := 1) (n := 17) (by first | decide | omega) (by first | decide | omega) ?_
            exact r_retZ C hr hlk rfl hM (⟨hX, hI, hrd1, hA6, by decide⟩) dX6_takeKind_93
          · have tcv10 := eqF cv10
            refine lv_aload_n hx hb dX6_takeKind_73 rfl (lv_at hl 1 rfl) ?_
            refine r_get (ci := 6) (k := 5) C hM kh0 f_X6_25 rfl dX6_takeKind_74 ?_
            obtain ⟨rv16, erv16, krv16⟩ : ∃ r : Option Nat, mR S 605 h0 = r ∧ ∀ q, r = some q → mK S q = 6 := ⟨_, rfl, TI.opt hI.1 (ci := 6) (k := 5) kh0⟩
            refine W.eq (g2 := F0 m 77 ls [va_rf rv16, .null, .long lv9, .ref h1, .ref h0]) (by rw [← erv16]; rfl) ?_
            refine lv_goto (tgt := 81) hx hb dX6_takeKind_77 (by decide) ?_
            refine r_VN (As := [.long lv9, .null, va_rf rv16]) (rest := [.ref h0]) (ci := 4) C hM (c_X4_add l D H0 S kc ns h1 lv9 none rv16 hI hu kh1 (fun z h => by cases h) (krv16) (fun z h => by cases h) (fun z h => hrd.2 z ((erv16).trans h))) i_X4_add m_X6_91 kh1 rfl rfl rfl hl.1 rfl (Nat.le_of_ble_eq_true rfl) ⟨by decide, by decide⟩ ⟨by decide, by decide⟩ dX6_takeKind_81 (fun rv20 Sv17 kv18 nv19 H locs pv21 hM => ?_)
            obtain ⟨hx9, hI, hA3, hA4, hA5, hA6, hA7⟩ := pv21
            have kh0 : mK Sv17 h0 = 7 := (hx9).k kh0
            have kh1 : mK Sv17 h1 = 5 := (hx9).k kh1
            have hX := hX.trans hx9
            refine W.eq (g2 := F0 m 84 ls [va_rf rv20, .ref h0]) rfl ?_
            have krv20 : ∀ q, rv20 = some q → mK Sv17 q = 6 := fun q h => (hA7 q h).1
            refine r_put C hM kh0 f_X6_25 (fun r h => by cases h; rfl) (by cases rv20 <;> rfl) (by cases rv20 <;> rfl) (mPut.Rf (ci := 6) (k := 5) (x := rv20) rfl) dX6_takeKind_84 (fun H locs hM => ?_)
            have hM : mH D H0 (pR Sv17 605 h0 rv20) kv18 nv19 H locs := hM
            have hI : CI x0 (u + 61) tl rho (pR Sv17 605 h0 rv20) := CI.putR (ci := 6) (k := 5) hI kh0 (fun z h => ⟨krv20 z h, fun h => absurd rfl h⟩) (Or.inl rfl) (by decide) (by decide) (by decide)
            have hrd1 : RD (pR Sv17 605 h0 rv20) h0 h1 := ⟨fun q e => by have e2 : mR S 604 h0 = some q := (hA4 h0 kh0a).1.symm.trans e; have e3 := hrd.1 q e2; have e4 : mI (pR Sv17 605 h0 rv20) 501 q = mI S 501 q := hA3 q ((opt9 hI0 kh0a).1 e2); rw [e4]; exact Int.lt_of_lt_of_le e3 hA5, fun q e => by have e2 : rv20 = some q := (by simpa [mR, up2] using e); exact (hA7 q e2).2⟩
            refine lv_aload_n hx hb dX6_takeKind_87 rfl (lv_at hl 1 rfl) ?_
            refine lv_iconst (v := 2) hx hb dX6_takeKind_88 (by decide) ?_
            refine r_put C hM kh0 f_X6_18 (fun r h => by cases h; rfl) rfl rfl (mPut.I (ci := 6) (k := 3) rfl) dX6_takeKind_89 (fun H locs hM => ?_)
            have hM : mH D H0 (pI (pR Sv17 605 h0 rv20) 603 h0 2) kv18 nv19 H locs := hM
            have hI := hI.fe (fEq.I (S := (pR Sv17 605 h0 rv20)) (f := 603) (a := h0) (v := 2) (by decide))
            refine lv_iconst (v := 1) hx hb dX6_takeKind_92 (by decide) ?_
            refine W.widen (k := 1) (n := 17) (by first | decide | omega) (by first | decide | omega) ?_
            exact r_retZ C hr hlk rfl hM (⟨hX, hI, hrd1, hA6, by decide⟩) dX6_takeKind_93
        | some qv7 =>
          have kqv7 : mK S qv7 = 6 := krv6 qv7 rfl
          refine lv_ifnull hx hb dX6_takeKind_39 ?_
          refine lv_aload_n hx hb dX6_takeKind_42 rfl (lv_at hl 1 rfl) ?_
          refine r_get (ci := 6) (k := 4) (v := .ref qv7) C hM kh0 f_X6_21 (congrArg va_rf (erv6)) dX6_takeKind_43 ?_
          refine r_getN (ci := 5) (k := 7) (v := .int (mI S 507 qv7)) C hM kqv7 f_X6_82 rfl dX6_takeKind_46 ?_
          refine lv_topi (fun xv22 exv22 => ?_)
          refine lv_bipush (v := 11) hx hb dX6_takeKind_49 (by decide) ?_
          refine lv_icmp_lt (tgt := 56) hx hb dX6_takeKind_51 (by decide) (fun cv23 => ?_) (fun cv23 => ?_)
          · have tcv23 := ltT cv23
            refine lv_aload_n hx hb dX6_takeKind_56 rfl (lv_at hl 1 rfl) ?_
            refine lv_aload_n hx hb dX6_takeKind_57 rfl (lv_at hl 2 rfl) ?_
            refine lv_aload_n hx hb dX6_takeKind_58 rfl (lv_at hl 1 rfl) ?_
            obtain ⟨qv24, eqv24, kqv24, nqv24⟩ := TI.nn hI.1 (ci := 6) (k := 0) kh0
            refine r_get (ci := 6) (k := 0) (v := .ref qv24) C hM kh0 f_X6_33 (congrArg va_rf eqv24) dX6_takeKind_59 ?_
            refine r_getN (ci := 10) (k := 4) (v := .long (mL S 1004 qv24)) C hM kqv24 f_X6_87 rfl dX6_takeKind_62 ?_
            refine lv_topl (fun lv25 elv25 => ?_)
            refine lv_aload_n hx hb dX6_takeKind_65 rfl (lv_at hl 1 rfl) ?_
            refine r_get (ci := 6) (k := 4) (v := .ref qv7) C hM kh0 f_X6_21 (congrArg va_rf (erv6)) dX6_takeKind_66 ?_
            refine lv_iload_n hx hb dX6_takeKind_69 rfl (lv_at hl 0 rfl) ?_
            refine lv_if_eq (tgt := 80) hx hb dX6_takeKind_70 (by decide) (fun cv26 => ?_) (fun cv26 => ?_)
            · have tcv26 := eqT cv26
              refine lv_null hx hb dX6_takeKind_80 ?_
              refine r_VN (As := [.long lv25, .ref qv7, .null]) (rest := [.ref h0]) (ci := 4) C hM (c_X4_add l D H0 S kc ns h1 lv25 (some qv7) none hI hu kh1 (fun z h => by cases h; exact kqv7) (fun z h => by cases h) (fun z h => hrd.1 z ((erv6).trans h)) (fun z h => by cases h)) i_X4_add m_X6_91 kh1 rfl rfl rfl hl.1 rfl (Nat.le_of_ble_eq_true rfl) ⟨by decide, by decide⟩ ⟨by decide, by decide⟩ dX6_takeKind_81 (fun rv30 Sv27 kv28 nv29 H locs pv31 hM => ?_)
              obtain ⟨hx9, hI, hA3, hA4, hA5, hA6, hA7⟩ := pv31
              have kh0 : mK Sv27 h0 = 7 := (hx9).k kh0
              have kh1 : mK Sv27 h1 = 5 := (hx9).k kh1
              have hX := hX.trans hx9
              refine W.eq (g2 := F0 m 84 ls [va_rf rv30, .ref h0]) rfl ?_
              have krv30 : ∀ q, rv30 = some q → mK Sv27 q = 6 := fun q h => (hA7 q h).1
              refine r_put C hM kh0 f_X6_25 (fun r h => by cases h; rfl) (by cases rv30 <;> rfl) (by cases rv30 <;> rfl) (mPut.Rf (ci := 6) (k := 5) (x := rv30) rfl) dX6_takeKind_84 (fun H locs hM => ?_)
              have hM : mH D H0 (pR Sv27 605 h0 rv30) kv28 nv29 H locs := hM
              have hI : CI x0 (u + 61) tl rho (pR Sv27 605 h0 rv30) := CI.putR (ci := 6) (k := 5) hI kh0 (fun z h => ⟨krv30 z h, fun h => absurd rfl h⟩) (Or.inl rfl) (by decide) (by decide) (by decide)
              have hrd1 : RD (pR Sv27 605 h0 rv30) h0 h1 := ⟨fun q e => by have e2 : mR S 604 h0 = some q := (hA4 h0 kh0a).1.symm.trans e; have e3 := hrd.1 q e2; have e4 : mI (pR Sv27 605 h0 rv30) 501 q = mI S 501 q := hA3 q ((opt9 hI0 kh0a).1 e2); rw [e4]; exact Int.lt_of_lt_of_le e3 hA5, fun q e => by have e2 : rv30 = some q := (by simpa [mR, up2] using e); exact (hA7 q e2).2⟩
              refine lv_aload_n hx hb dX6_takeKind_87 rfl (lv_at hl 1 rfl) ?_
              refine lv_iconst (v := 2) hx hb dX6_takeKind_88 (by decide) ?_
              refine r_put C hM kh0 f_X6_18 (fun r h => by cases h; rfl) rfl rfl (mPut.I (ci := 6) (k := 3) rfl) dX6_takeKind_89 (fun H locs hM => ?_)
              have hM : mH D H0 (pI (pR Sv27 605 h0 rv30) 603 h0 2) kv28 nv29 H locs := hM
              have hI := hI.fe (fEq.I (S := (pR Sv27 605 h0 rv30)) (f := 603) (a := h0) (v := 2) (by decide))
              refine lv_iconst (v := 1) hx hb dX6_takeKind_92 (by decide) ?_
              refine W.widen (k := 1) (n := 17) (by first | decide | omega) (by first | decide | omega) ?_
              exact r_retZ C hr hlk rfl hM (⟨hX, hI, hrd1, hA6, by decide⟩) dX6_takeKind_93
            · have tcv26 := eqF cv26
              refine lv_aload_n hx hb dX6_takeKind_73 rfl (lv_at hl 1 rfl) ?_
              refine r_get (ci := 6) (k := 5) C hM kh0 f_X6_25 rfl dX6_takeKind_74 ?_
              obtain ⟨rv32, erv32, krv32⟩ : ∃ r : Option Nat, mR S 605 h0 = r ∧ ∀ q, r = some q → mK S q = 6 := ⟨_, rfl, TI.opt hI.1 (ci := 6) (k := 5) kh0⟩
              refine W.eq (g2 := F0 m 77 ls [va_rf rv32, .ref qv7, .long lv25, .ref h1, .ref h0]) (by rw [← erv32]; rfl) ?_
              refine lv_goto (tgt := 81) hx hb dX6_takeKind_77 (by decide) ?_
              refine r_VN (As := [.long lv25, .ref qv7, va_rf rv32]) (rest := [.ref h0]) (ci := 4) C hM (c_X4_add l D H0 S kc ns h1 lv25 (some qv7) rv32 hI hu kh1 (fun z h => by cases h; exact kqv7) (krv32) (fun z h => hrd.1 z ((erv6).trans h)) (fun z h => hrd.2 z ((erv32).trans h))) i_X4_add m_X6_91 kh1 rfl rfl rfl hl.1 rfl (Nat.le_of_ble_eq_true rfl) ⟨by decide, by decide⟩ ⟨by decide, by decide⟩ dX6_takeKind_81 (fun rv36 Sv33 kv34 nv35 H locs pv37 hM => ?_)
              obtain ⟨hx9, hI, hA3, hA4, hA5, hA6, hA7⟩ := pv37
              have kh0 : mK Sv33 h0 = 7 := (hx9).k kh0
              have kh1 : mK Sv33 h1 = 5 := (hx9).k kh1
              have hX := hX.trans hx9
              refine W.eq (g2 := F0 m 84 ls [va_rf rv36, .ref h0]) rfl ?_
              have krv36 : ∀ q, rv36 = some q → mK Sv33 q = 6 := fun q h => (hA7 q h).1
              refine r_put C hM kh0 f_X6_25 (fun r h => by cases h; rfl) (by cases rv36 <;> rfl) (by cases rv36 <;> rfl) (mPut.Rf (ci := 6) (k := 5) (x := rv36) rfl) dX6_takeKind_84 (fun H locs hM => ?_)
              have hM : mH D H0 (pR Sv33 605 h0 rv36) kv34 nv35 H locs := hM
              have hI : CI x0 (u + 61) tl rho (pR Sv33 605 h0 rv36) := CI.putR (ci := 6) (k := 5) hI kh0 (fun z h => ⟨krv36 z h, fun h => absurd rfl h⟩) (Or.inl rfl) (by decide) (by decide) (by decide)
              have hrd1 : RD (pR Sv33 605 h0 rv36) h0 h1 := ⟨fun q e => by have e2 : mR S 604 h0 = some q := (hA4 h0 kh0a).1.symm.trans e; have e3 := hrd.1 q e2; have e4 : mI (pR Sv33 605 h0 rv36) 501 q = mI S 501 q := hA3 q ((opt9 hI0 kh0a).1 e2); rw [e4]; exact Int.lt_of_lt_of_le e3 hA5, fun q e => by have e2 : rv36 = some q := (by simpa [mR, up2] using e); exact (hA7 q e2).2⟩
              refine lv_aload_n hx hb dX6_takeKind_87 rfl (lv_at hl 1 rfl) ?_
              refine lv_iconst (v := 2) hx hb dX6_takeKind_88 (by decide) ?_
              refine r_put C hM kh0 f_X6_18 (fun r h => by cases h; rfl) rfl rfl (mPut.I (ci := 6) (k := 3) rfl) dX6_takeKind_89 (fun H locs hM => ?_)
              have hM : mH D H0 (pI (pR Sv33 605 h0 rv36) 603 h0 2) kv34 nv35 H locs := hM
              have hI := hI.fe (fEq.I (S := (pR Sv33 605 h0 rv36)) (f := 603) (a := h0) (v := 2) (by decide))
              refine lv_iconst (v := 1) hx hb dX6_takeKind_92 (by decide) ?_
              refine W.widen (k := 1) (n := 17) (by first | decide | omega) (by first | decide | omega) ?_
              exact r_retZ C hr hlk rfl hM (⟨hX, hI, hrd1, hA6, by decide⟩) dX6_takeKind_93
          · have tcv23 := ltF cv23
            refine lv_iconst (v := 0) hx hb dX6_takeKind_54 (by decide) ?_
            refine W.widen (k := 1) (n := 17) (by first | decide | omega) (by first | decide | omega) ?_
            exact r_retZ C hr hlk rfl hM (⟨mX.rf, CI.ccLe hI (by omega), hrd, ⟨by omega, by omega⟩, by decide⟩) dX6_takeKind_55
    · have tcv3 := eqF cv3
      refine lv_aload_n hx hb dX6_takeKind_17 rfl (lv_at hl 1 rfl) ?_
      refine r_get (ci := 6) (k := 4) C hM kh0 f_X6_21 rfl dX6_takeKind_18 ?_
      obtain ⟨rv38, erv38, krv38⟩ : ∃ r : Option Nat, mR S 604 h0 = r ∧ ∀ q, r = some q → mK S q = 6 := ⟨_, rfl, TI.opt hI.1 (ci := 6) (k := 4) kh0⟩
      refine W.eq (g2 := F0 m 21 ls [va_rf rv38]) (by rw [← erv38]; rfl) ?_
      cases rv38 with
      | none =>
        refine lv_ifnonnullN hx hb dX6_takeKind_21 ?_
        refine lv_iconst (v := 0) hx hb dX6_takeKind_24 (by decide) ?_
        refine W.widen (k := 1) (n := 17) (by first | decide | omega) (by first | decide | omega) ?_
        exact r_retZ C hr hlk rfl hM (⟨mX.rf, CI.ccLe hI (by omega), hrd, ⟨by omega, by omega⟩, by decide⟩) dX6_takeKind_25
      | some qv39 =>
        have kqv39 : mK S qv39 = 6 := krv38 qv39 rfl
        refine lv_ifnonnull (tgt := 26) hx hb dX6_takeKind_21 (by decide) ?_
        refine lv_aload_n hx hb dX6_takeKind_26 rfl (lv_at hl 2 rfl) ?_
        refine r_getN (ci := 4) (k := 1) (v := .int (mI S 401 h1)) C hM kh1 f_X6_79 rfl dX6_takeKind_27 ?_
        refine lv_topi (fun xv40 exv40 => ?_)
        have fxv40 := NI.g401 hI.2 kh1 exv40
        refine lv_bipush (v := 60) hx hb dX6_takeKind_30 (by decide) ?_
        refine lv_icmp_ge (tgt := 54) hx hb dX6_takeKind_32 (by decide) (fun cv41 => ?_) (fun cv41 => ?_)
        · have tcv41 := leT cv41
          refine lv_iconst (v := 0) hx hb dX6_takeKind_54 (by decide) ?_
          refine W.widen (k := 1) (n := 17) (by first | decide | omega) (by first | decide | omega) ?_
          exact r_retZ C hr hlk rfl hM (⟨mX.rf, CI.ccLe hI (by omega), hrd, ⟨by omega, by omega⟩, by decide⟩) dX6_takeKind_55
        · have tcv41 := leF cv41
          refine lv_aload_n hx hb dX6_takeKind_35 rfl (lv_at hl 1 rfl) ?_
          refine r_get (ci := 6) (k := 4) (v := .ref qv39) C hM kh0 f_X6_21 (congrArg va_rf (erv38)) dX6_takeKind_36 ?_
          refine lv_ifnull hx hb dX6_takeKind_39 ?_
          refine lv_aload_n hx hb dX6_takeKind_42 rfl (lv_at hl 1 rfl) ?_
          refine r_get (ci := 6) (k := 4) (v := .ref qv39) C hM kh0 f_X6_21 (congrArg va_rf (erv38)) dX6_takeKind_43 ?_
          refine r_getN (ci := 5) (k := 7) (v := .int (mI S 507 qv39)) C hM kqv39 f_X6_82 rfl dX6_takeKind_46 ?_
          refine lv_topi (fun xv42 exv42 => ?_)
          refine lv_bipush (v := 11) hx hb dX6_takeKind_49 (by decide) ?_
          refine lv_icmp_lt (tgt := 56) hx hb dX6_takeKind_51 (by decide) (fun cv43 => ?_) (fun cv43 => ?_)
          · have tcv43 := ltT cv43
            refine lv_aload_n hx hb dX6_takeKind_56 rfl (lv_at hl 1 rfl) ?_
            refine lv_aload_n hx hb dX6_takeKind_57 rfl (lv_at hl 2 rfl) ?_
            refine lv_aload_n hx hb dX6_takeKind_58 rfl (lv_at hl 1 rfl) ?_
            obtain ⟨qv44, eqv44, kqv44, nqv44⟩ := TI.nn hI.1 (ci := 6) (k := 0) kh0
            refine r_get (ci := 6) (k := 0) (v := .ref qv44) C hM kh0 f_X6_33 (congrArg va_rf eqv44) dX6_takeKind_59 ?_
            refine r_getN (ci := 10) (k := 4) (v := .long (mL S 1004 qv44)) C hM kqv44 f_X6_87 rfl dX6_takeKind_62 ?_
            refine lv_topl (fun lv45 elv45 => ?_)
            refine lv_aload_n hx hb dX6_takeKind_65 rfl (lv_at hl 1 rfl) ?_
            refine r_get (ci := 6) (k := 4) (v := .ref qv39) C hM kh0 f_X6_21 (congrArg va_rf (erv38)) dX6_takeKind_66 ?_
            refine lv_iload_n hx hb dX6_takeKind_69 rfl (lv_at hl 0 rfl) ?_
            refine lv_if_eq (tgt := 80) hx hb dX6_takeKind_70 (by decide) (fun cv46 => ?_) (fun cv46 => ?_)
            · have tcv46 := eqT cv46
              refine lv_null hx hb dX6_takeKind_80 ?_
              refine r_VN (As := [.long lv45, .ref qv39, .null]) (rest := [.ref h0]) (ci := 4) C hM (c_X4_add l D H0 S kc ns h1 lv45 (some qv39) none hI hu kh1 (fun z h => by cases h; exact kqv39) (fun z h => by cases h) (fun z h => hrd.1 z ((erv38).trans h)) (fun z h => by cases h)) i_X4_add m_X6_91 kh1 rfl rfl rfl hl.1 rfl (Nat.le_of_ble_eq_true rfl) ⟨by decide, by decide⟩ ⟨by decide, by decide⟩ dX6_takeKind_81 (fun rv50 Sv47 kv48 nv49 H locs pv51 hM => ?_)
              obtain ⟨hx9, hI, hA3, hA4, hA5, hA6, hA7⟩ := pv51
              have kh0 : mK Sv47 h0 = 7 := (hx9).k kh0
              have kh1 : mK Sv47 h1 = 5 := (hx9).k kh1
              have hX := hX.trans hx9
              refine W.eq (g2 := F0 m 84 ls [va_rf rv50, .ref h0]) rfl ?_
              have krv50 : ∀ q, rv50 = some q → mK Sv47 q = 6 := fun q h => (hA7 q h).1
              refine r_put C hM kh0 f_X6_25 (fun r h => by cases h; rfl) (by cases rv50 <;> rfl) (by cases rv50 <;> rfl) (mPut.Rf (ci := 6) (k := 5) (x := rv50) rfl) dX6_takeKind_84 (fun H locs hM => ?_)
              have hM : mH D H0 (pR Sv47 605 h0 rv50) kv48 nv49 H locs := hM
              have hI : CI x0 (u + 61) tl rho (pR Sv47 605 h0 rv50) := CI.putR (ci := 6) (k := 5) hI kh0 (fun z h => ⟨krv50 z h, fun h => absurd rfl h⟩) (Or.inl rfl) (by decide) (by decide) (by decide)
              have hrd1 : RD (pR Sv47 605 h0 rv50) h0 h1 := ⟨fun q e => by have e2 : mR S 604 h0 = some q := (hA4 h0 kh0a).1.symm.trans e; have e3 := hrd.1 q e2; have e4 : mI (pR Sv47 605 h0 rv50) 501 q = mI S 501 q := hA3 q ((opt9 hI0 kh0a).1 e2); rw [e4]; exact Int.lt_of_lt_of_le e3 hA5, fun q e => by have e2 : rv50 = some q := (by simpa [mR, up2] using e); exact (hA7 q e2).2⟩
              refine lv_aload_n hx hb dX6_takeKind_87 rfl (lv_at hl 1 rfl) ?_
              refine lv_iconst (v := 2) hx hb dX6_takeKind_88 (by decide) ?_
              refine r_put C hM kh0 f_X6_18 (fun r h => by cases h; rfl) rfl rfl (mPut.I (ci := 6) (k := 3) rfl) dX6_takeKind_89 (fun H locs hM => ?_)
              have hM : mH D H0 (pI (pR Sv47 605 h0 rv50) 603 h0 2) kv48 nv49 H locs := hM
              have hI := hI.fe (fEq.I (S := (pR Sv47 605 h0 rv50)) (f := 603) (a := h0) (v := 2) (by decide))
              refine lv_iconst (v := 1) hx hb dX6_takeKind_92 (by decide) ?_
              refine W.widen (k := 1) (n := 17) (by first | decide | omega) (by first | decide | omega) ?_
              exact r_retZ C hr hlk rfl hM (⟨hX, hI, hrd1, hA6, by decide⟩) dX6_takeKind_93
            · have tcv46 := eqF cv46
              refine lv_aload_n hx hb dX6_takeKind_73 rfl (lv_at hl 1 rfl) ?_
              refine r_get (ci := 6) (k := 5) C hM kh0 f_X6_25 rfl dX6_takeKind_74 ?_
              obtain ⟨rv52, erv52, krv52⟩ : ∃ r : Option Nat, mR S 605 h0 = r ∧ ∀ q, r = some q → mK S q = 6 := ⟨_, rfl, TI.opt hI.1 (ci := 6) (k := 5) kh0⟩
              refine W.eq (g2 := F0 m 77 ls [va_rf rv52, .ref qv39, .long lv45, .ref h1, .ref h0]) (by rw [← erv52]; rfl) ?_
              refine lv_goto (tgt := 81) hx hb dX6_takeKind_77 (by decide) ?_
              refine r_VN (As := [.long lv45, .ref qv39, va_rf rv52]) (rest := [.ref h0]) (ci := 4) C hM (c_X4_add l D H0 S kc ns h1 lv45 (some qv39) rv52 hI hu kh1 (fun z h => by cases h; exact kqv39) (krv52) (fun z h => hrd.1 z ((erv38).trans h)) (fun z h => hrd.2 z ((erv52).trans h))) i_X4_add m_X6_91 kh1 rfl rfl rfl hl.1 rfl (Nat.le_of_ble_eq_true rfl) ⟨by decide, by decide⟩ ⟨by decide, by decide⟩ dX6_takeKind_81 (fun rv56 Sv53 kv54 nv55 H locs pv57 hM => ?_)
              obtain ⟨hx9, hI, hA3, hA4, hA5, hA6, hA7⟩ := pv57
              have kh0 : mK Sv53 h0 = 7 := (hx9).k kh0
              have kh1 : mK Sv53 h1 = 5 := (hx9).k kh1
              have hX := hX.trans hx9
              refine W.eq (g2 := F0 m 84 ls [va_rf rv56, .ref h0]) rfl ?_
              have krv56 : ∀ q, rv56 = some q → mK Sv53 q = 6 := fun q h => (hA7 q h).1
              refine r_put C hM kh0 f_X6_25 (fun r h => by cases h; rfl) (by cases rv56 <;> rfl) (by cases rv56 <;> rfl) (mPut.Rf (ci := 6) (k := 5) (x := rv56) rfl) dX6_takeKind_84 (fun H locs hM => ?_)
              have hM : mH D H0 (pR Sv53 605 h0 rv56) kv54 nv55 H locs := hM
              have hI : CI x0 (u + 61) tl rho (pR Sv53 605 h0 rv56) := CI.putR (ci := 6) (k := 5) hI kh0 (fun z h => ⟨krv56 z h, fun h => absurd rfl h⟩) (Or.inl rfl) (by decide) (by decide) (by decide)
              have hrd1 : RD (pR Sv53 605 h0 rv56) h0 h1 := ⟨fun q e => by have e2 : mR S 604 h0 = some q := (hA4 h0 kh0a).1.symm.trans e; have e3 := hrd.1 q e2; have e4 : mI (pR Sv53 605 h0 rv56) 501 q = mI S 501 q := hA3 q ((opt9 hI0 kh0a).1 e2); rw [e4]; exact Int.lt_of_lt_of_le e3 hA5, fun q e => by have e2 : rv56 = some q := (by simpa [mR, up2] using e); exact (hA7 q e2).2⟩
              refine lv_aload_n hx hb dX6_takeKind_87 rfl (lv_at hl 1 rfl) ?_
              refine lv_iconst (v := 2) hx hb dX6_takeKind_88 (by decide) ?_
              refine r_put C hM kh0 f_X6_18 (fun r h => by cases h; rfl) rfl rfl (mPut.I (ci := 6) (k := 3) rfl) dX6_takeKind_89 (fun H locs hM => ?_)
              have hM : mH D H0 (pI (pR Sv53 605 h0 rv56) 603 h0 2) kv54 nv55 H locs := hM
              have hI := hI.fe (fEq.I (S := (pR Sv53 605 h0 rv56)) (f := 603) (a := h0) (v := 2) (by decide))
              refine lv_iconst (v := 1) hx hb dX6_takeKind_92 (by decide) ?_
              refine W.widen (k := 1) (n := 17) (by first | decide | omega) (by first | decide | omega) ?_
              exact r_retZ C hr hlk rfl hM (⟨hX, hI, hrd1, hA6, by decide⟩) dX6_takeKind_93
          · have tcv43 := ltF cv43
            refine lv_iconst (v := 0) hx hb dX6_takeKind_54 (by decide) ?_
            refine W.widen (k := 1) (n := 17) (by first | decide | omega) (by first | decide | omega) ?_
            exact r_retZ C hr hlk rfl hM (⟨mX.rf, CI.ccLe hI (by omega), hrd, ⟨by omega, by omega⟩, by decide⟩) dX6_takeKind_55
  · have tcv2 := eqF cv2
    refine lv_iconst (v := 1) hx hb dX6_takeKind_7 (by decide) ?_
    refine lv_goto (tgt := 12) hx hb dX6_takeKind_8 (by decide) ?_
    refine lv_istore_n (lv' := [(2, .int 1), (0, .ref h0), (1, .ref h1)]) hx hb dX6_takeKind_12 rfl hl (by decide) rfl (fun ls hl => ?_)
    refine lv_iload_n hx hb dX6_takeKind_13 rfl (lv_at hl 0 rfl) ?_
    refine lv_if_eq (tgt := 26) hx hb dX6_takeKind_14 (by decide) (fun cv58 => ?_) (fun cv58 => ?_)
    · have tcv58 := eqT cv58
      refine lv_aload_n hx hb dX6_takeKind_26 rfl (lv_at hl 2 rfl) ?_
      refine r_getN (ci := 4) (k := 1) (v := .int (mI S 401 h1)) C hM kh1 f_X6_79 rfl dX6_takeKind_27 ?_
      refine lv_topi (fun xv59 exv59 => ?_)
      have fxv59 := NI.g401 hI.2 kh1 exv59
      refine lv_bipush (v := 60) hx hb dX6_takeKind_30 (by decide) ?_
      refine lv_icmp_ge (tgt := 54) hx hb dX6_takeKind_32 (by decide) (fun cv60 => ?_) (fun cv60 => ?_)
      · have tcv60 := leT cv60
        refine lv_iconst (v := 0) hx hb dX6_takeKind_54 (by decide) ?_
        refine W.widen (k := 1) (n := 17) (by first | decide | omega) (by first | decide | omega) ?_
        exact r_retZ C hr hlk rfl hM (⟨mX.rf, CI.ccLe hI (by omega), hrd, ⟨by omega, by omega⟩, by decide⟩) dX6_takeKind_55
      · have tcv60 := leF cv60
        refine lv_aload_n hx hb dX6_takeKind_35 rfl (lv_at hl 1 rfl) ?_
        refine r_get (ci := 6) (k := 4) C hM kh0 f_X6_21 rfl dX6_takeKind_36 ?_
        obtain ⟨rv61, erv61, krv61⟩ : ∃ r : Option Nat, mR S 604 h0 = r ∧ ∀ q, r = some q → mK S q = 6 := ⟨_, rfl, TI.opt hI.1 (ci := 6) (k := 4) kh0⟩
        refine W.eq (g2 := F0 m 39 ls [va_rf rv61]) (by rw [← erv61]; rfl) ?_
        cases rv61 with
        | none =>
          refine lv_ifnullN (tgt := 56) hx hb dX6_takeKind_39 (by decide) ?_
          refine lv_aload_n hx hb dX6_takeKind_56 rfl (lv_at hl 1 rfl) ?_
          refine lv_aload_n hx hb dX6_takeKind_57 rfl (lv_at hl 2 rfl) ?_
          refine lv_aload_n hx hb dX6_takeKind_58 rfl (lv_at hl 1 rfl) ?_
          obtain ⟨qv63, eqv63, kqv63, nqv63⟩ := TI.nn hI.1 (ci := 6) (k := 0) kh0
          refine r_get (ci := 6) (k := 0) (v := .ref qv63) C hM kh0 f_X6_33 (congrArg va_rf eqv63) dX6_takeKind_59 ?_
          refine r_getN (ci := 10) (k := 4) (v := .long (mL S 1004 qv63)) C hM kqv63 f_X6_87 rfl dX6_takeKind_62 ?_
          refine lv_topl (fun lv64 elv64 => ?_)
          refine lv_aload_n hx hb dX6_takeKind_65 rfl (lv_at hl 1 rfl) ?_
          refine r_get (ci := 6) (k := 4) (v := .null) C hM kh0 f_X6_21 (congrArg va_rf (erv61)) dX6_takeKind_66 ?_
          refine lv_iload_n hx hb dX6_takeKind_69 rfl (lv_at hl 0 rfl) ?_
          refine lv_if_eq (tgt := 80) hx hb dX6_takeKind_70 (by decide) (fun cv65 => ?_) (fun cv65 => ?_)
          · have tcv65 := eqT cv65
            refine lv_null hx hb dX6_takeKind_80 ?_
            refine r_VN (As := [.long lv64, .null, .null]) (rest := [.ref h0]) (ci := 4) C hM (c_X4_add l D H0 S kc ns h1 lv64 none none hI hu kh1 (fun z h => by cases h) (fun z h => by cases h) (fun z h => by cases h) (fun z h => by cases h)) i_X4_add m_X6_91 kh1 rfl rfl rfl hl.1 rfl (Nat.le_of_ble_eq_true rfl) ⟨by decide, by decide⟩ ⟨by decide, by decide⟩ dX6_takeKind_81 (fun rv69 Sv66 kv67 nv68 H locs pv70 hM => ?_)
            obtain ⟨hx9, hI, hA3, hA4, hA5, hA6, hA7⟩ := pv70
            have kh0 : mK Sv66 h0 = 7 := (hx9).k kh0
            have kh1 : mK Sv66 h1 = 5 := (hx9).k kh1
            have hX := hX.trans hx9
            refine W.eq (g2 := F0 m 84 ls [va_rf rv69, .ref h0]) rfl ?_
            have krv69 : ∀ q, rv69 = some q → mK Sv66 q = 6 := fun q h => (hA7 q h).1
            refine r_put C hM kh0 f_X6_25 (fun r h => by cases h; rfl) (by cases rv69 <;> rfl) (by cases rv69 <;> rfl) (mPut.Rf (ci := 6) (k := 5) (x := rv69) rfl) dX6_takeKind_84 (fun H locs hM => ?_)
            have hM : mH D H0 (pR Sv66 605 h0 rv69) kv67 nv68 H locs := hM
            have hI : CI x0 (u + 61) tl rho (pR Sv66 605 h0 rv69) := CI.putR (ci := 6) (k := 5) hI kh0 (fun z h => ⟨krv69 z h, fun h => absurd rfl h⟩) (Or.inl rfl) (by decide) (by decide) (by decide)
            have hrd1 : RD (pR Sv66 605 h0 rv69) h0 h1 := ⟨fun q e => by have e2 : mR S 604 h0 = some q := (hA4 h0 kh0a).1.symm.trans e; have e3 := hrd.1 q e2; have e4 : mI (pR Sv66 605 h0 rv69) 501 q = mI S 501 q := hA3 q ((opt9 hI0 kh0a).1 e2); rw [e4]; exact Int.lt_of_lt_of_le e3 hA5, fun q e => by have e2 : rv69 = some q := (by simpa [mR, up2] using e); exact (hA7 q e2).2⟩
            refine lv_aload_n hx hb dX6_takeKind_87 rfl (lv_at hl 1 rfl) ?_
            refine lv_iconst (v := 2) hx hb dX6_takeKind_88 (by decide) ?_
            refine r_put C hM kh0 f_X6_18 (fun r h => by cases h; rfl) rfl rfl (mPut.I (ci := 6) (k := 3) rfl) dX6_takeKind_89 (fun H locs hM => ?_)
            have hM : mH D H0 (pI (pR Sv66 605 h0 rv69) 603 h0 2) kv67 nv68 H locs := hM
            have hI := hI.fe (fEq.I (S := (pR Sv66 605 h0 rv69)) (f := 603) (a := h0) (v := 2) (by decide))
            refine lv_iconst (v := 1) hx hb dX6_takeKind_92 (by decide) ?_
            refine W.widen (k := 1) (n := 17) (by first | decide | omega) (by first | decide | omega) ?_
            exact r_retZ C hr hlk rfl hM (⟨hX, hI, hrd1, hA6, by decide⟩) dX6_takeKind_93
          · have tcv65 := eqF cv65
            refine lv_aload_n hx hb dX6_takeKind_73 rfl (lv_at hl 1 rfl) ?_
            refine r_get (ci := 6) (k := 5) C hM kh0 f_X6_25 rfl dX6_takeKind_74 ?_
            obtain ⟨rv71, erv71, krv71⟩ : ∃ r : Option Nat, mR S 605 h0 = r ∧ ∀ q, r = some q → mK S q = 6 := ⟨_, rfl, TI.opt hI.1 (ci := 6) (k := 5) kh0⟩
            refine W.eq (g2 := F0 m 77 ls [va_rf rv71, .null, .long lv64, .ref h1, .ref h0]) (by rw [← erv71]; rfl) ?_
            refine lv_goto (tgt := 81) hx hb dX6_takeKind_77 (by decide) ?_
            refine r_VN (As := [.long lv64, .null, va_rf rv71]) (rest := [.ref h0]) (ci := 4) C hM (c_X4_add l D H0 S kc ns h1 lv64 none rv71 hI hu kh1 (fun z h => by cases h) (krv71) (fun z h => by cases h) (fun z h => hrd.2 z ((erv71).trans h))) i_X4_add m_X6_91 kh1 rfl rfl rfl hl.1 rfl (Nat.le_of_ble_eq_true rfl) ⟨by decide, by decide⟩ ⟨by decide, by decide⟩ dX6_takeKind_81 (fun rv75 Sv72 kv73 nv74 H locs pv76 hM => ?_)
            obtain ⟨hx9, hI, hA3, hA4, hA5, hA6, hA7⟩ := pv76
            have kh0 : mK Sv72 h0 = 7 := (hx9).k kh0
            have kh1 : mK Sv72 h1 = 5 := (hx9).k kh1
            have hX := hX.trans hx9
            refine W.eq (g2 := F0 m 84 ls [va_rf rv75, .ref h0]) rfl ?_
            have krv75 : ∀ q, rv75 = some q → mK Sv72 q = 6 := fun q h => (hA7 q h).1
            refine r_put C hM kh0 f_X6_25 (fun r h => by cases h; rfl) (by cases rv75 <;> rfl) (by cases rv75 <;> rfl) (mPut.Rf (ci := 6) (k := 5) (x := rv75) rfl) dX6_takeKind_84 (fun H locs hM => ?_)
            have hM : mH D H0 (pR Sv72 605 h0 rv75) kv73 nv74 H locs := hM
            have hI : CI x0 (u + 61) tl rho (pR Sv72 605 h0 rv75) := CI.putR (ci := 6) (k := 5) hI kh0 (fun z h => ⟨krv75 z h, fun h => absurd rfl h⟩) (Or.inl rfl) (by decide) (by decide) (by decide)
            have hrd1 : RD (pR Sv72 605 h0 rv75) h0 h1 := ⟨fun q e => by have e2 : mR S 604 h0 = some q := (hA4 h0 kh0a).1.symm.trans e; have e3 := hrd.1 q e2; have e4 : mI (pR Sv72 605 h0 rv75) 501 q = mI S 501 q := hA3 q ((opt9 hI0 kh0a).1 e2); rw [e4]; exact Int.lt_of_lt_of_le e3 hA5, fun q e => by have e2 : rv75 = some q := (by simpa [mR, up2] using e); exact (hA7 q e2).2⟩
            refine lv_aload_n hx hb dX6_takeKind_87 rfl (lv_at hl 1 rfl) ?_
            refine lv_iconst (v := 2) hx hb dX6_takeKind_88 (by decide) ?_
            refine r_put C hM kh0 f_X6_18 (fun r h => by cases h; rfl) rfl rfl (mPut.I (ci := 6) (k := 3) rfl) dX6_takeKind_89 (fun H locs hM => ?_)
            have hM : mH D H0 (pI (pR Sv72 605 h0 rv75) 603 h0 2) kv73 nv74 H locs := hM
            have hI := hI.fe (fEq.I (S := (pR Sv72 605 h0 rv75)) (f := 603) (a := h0) (v := 2) (by decide))
            refine lv_iconst (v := 1) hx hb dX6_takeKind_92 (by decide) ?_
            refine W.widen (k := 1) (n := 17) (by first | decide | omega) (by first | decide | omega) ?_
            exact r_retZ C hr hlk rfl hM (⟨hX, hI, hrd1, hA6, by decide⟩) dX6_takeKind_93
        | some qv62 =>
          have kqv62 : mK S qv62 = 6 := krv61 qv62 rfl
          refine lv_ifnull hx hb dX6_takeKind_39 ?_
          refine lv_aload_n hx hb dX6_takeKind_42 rfl (lv_at hl 1 rfl) ?_
          refine r_get (ci := 6) (k := 4) (v := .ref qv62) C hM kh0 f_X6_21 (congrArg va_rf (erv61)) dX6_takeKind_43 ?_
          refine r_getN (ci := 5) (k := 7) (v := .int (mI S 507 qv62)) C hM kqv62 f_X6_82 rfl dX6_takeKind_46 ?_
          refine lv_topi (fun xv77 exv77 => ?_)
          refine lv_bipush (v := 11) hx hb dX6_takeKind_49 (by decide) ?_
          refine lv_icmp_lt (tgt := 56) hx hb dX6_takeKind_51 (by decide) (fun cv78 => ?_) (fun cv78 => ?_)
          · have tcv78 := ltT cv78
            refine lv_aload_n hx hb dX6_takeKind_56 rfl (lv_at hl 1 rfl) ?_
            refine lv_aload_n hx hb dX6_takeKind_57 rfl (lv_at hl 2 rfl) ?_
            refine lv_aload_n hx hb dX6_takeKind_58 rfl (lv_at hl 1 rfl) ?_
            obtain ⟨qv79, eqv79, kqv79, nqv79⟩ := TI.nn hI.1 (ci := 6) (k := 0) kh0
            refine r_get (ci := 6) (k := 0) (v := .ref qv79) C hM kh0 f_X6_33 (congrArg va_rf eqv79) dX6_takeKind_59 ?_
            refine r_getN (ci := 10) (k := 4) (v := .long (mL S 1004 qv79)) C hM kqv79 f_X6_87 rfl dX6_takeKind_62 ?_
            refine lv_topl (fun lv80 elv80 => ?_)
            refine lv_aload_n hx hb dX6_takeKind_65 rfl (lv_at hl 1 rfl) ?_
            refine r_get (ci := 6) (k := 4) (v := .ref qv62) C hM kh0 f_X6_21 (congrArg va_rf (erv61)) dX6_takeKind_66 ?_
            refine lv_iload_n hx hb dX6_takeKind_69 rfl (lv_at hl 0 rfl) ?_
            refine lv_if_eq (tgt := 80) hx hb dX6_takeKind_70 (by decide) (fun cv81 => ?_) (fun cv81 => ?_)
            · have tcv81 := eqT cv81
              refine lv_null hx hb dX6_takeKind_80 ?_
              refine r_VN (As := [.long lv80, .ref qv62, .null]) (rest := [.ref h0]) (ci := 4) C hM (c_X4_add l D H0 S kc ns h1 lv80 (some qv62) none hI hu kh1 (fun z h => by cases h; exact kqv62) (fun z h => by cases h) (fun z h => hrd.1 z ((erv61).trans h)) (fun z h => by cases h)) i_X4_add m_X6_91 kh1 rfl rfl rfl hl.1 rfl (Nat.le_of_ble_eq_true rfl) ⟨by decide, by decide⟩ ⟨by decide, by decide⟩ dX6_takeKind_81 (fun rv85 Sv82 kv83 nv84 H locs pv86 hM => ?_)
              obtain ⟨hx9, hI, hA3, hA4, hA5, hA6, hA7⟩ := pv86
              have kh0 : mK Sv82 h0 = 7 := (hx9).k kh0
              have kh1 : mK Sv82 h1 = 5 := (hx9).k kh1
              have hX := hX.trans hx9
              refine W.eq (g2 := F0 m 84 ls [va_rf rv85, .ref h0]) rfl ?_
              have krv85 : ∀ q, rv85 = some q → mK Sv82 q = 6 := fun q h => (hA7 q h).1
              refine r_put C hM kh0 f_X6_25 (fun r h => by cases h; rfl) (by cases rv85 <;> rfl) (by cases rv85 <;> rfl) (mPut.Rf (ci := 6) (k := 5) (x := rv85) rfl) dX6_takeKind_84 (fun H locs hM => ?_)
              have hM : mH D H0 (pR Sv82 605 h0 rv85) kv83 nv84 H locs := hM
              have hI : CI x0 (u + 61) tl rho (pR Sv82 605 h0 rv85) := CI.putR (ci := 6) (k := 5) hI kh0 (fun z h => ⟨krv85 z h, fun h => absurd rfl h⟩) (Or.inl rfl) (by decide) (by decide) (by decide)
              have hrd1 : RD (pR Sv82 605 h0 rv85) h0 h1 := ⟨fun q e => by have e2 : mR S 604 h0 = some q := (hA4 h0 kh0a).1.symm.trans e; have e3 := hrd.1 q e2; have e4 : mI (pR Sv82 605 h0 rv85) 501 q = mI S 501 q := hA3 q ((opt9 hI0 kh0a).1 e2); rw [e4]; exact Int.lt_of_lt_of_le e3 hA5, fun q e => by have e2 : rv85 = some q := (by simpa [mR, up2] using e); exact (hA7 q e2).2⟩
              refine lv_aload_n hx hb dX6_takeKind_87 rfl (lv_at hl 1 rfl) ?_
              refine lv_iconst (v := 2) hx hb dX6_takeKind_88 (by decide) ?_
              refine r_put C hM kh0 f_X6_18 (fun r h => by cases h; rfl) rfl rfl (mPut.I (ci := 6) (k := 3) rfl) dX6_takeKind_89 (fun H locs hM => ?_)
              have hM : mH D H0 (pI (pR Sv82 605 h0 rv85) 603 h0 2) kv83 nv84 H locs := hM
              have hI := hI.fe (fEq.I (S := (pR Sv82 605 h0 rv85)) (f := 603) (a := h0) (v := 2) (by decide))
              refine lv_iconst (v := 1) hx hb dX6_takeKind_92 (by decide) ?_
              refine W.widen (k := 1) (n := 17) (by first | decide | omega) (by first | decide | omega) ?_
              exact r_retZ C hr hlk rfl hM (⟨hX, hI, hrd1, hA6, by decide⟩) dX6_takeKind_93
            · have tcv81 := eqF cv81
              refine lv_aload_n hx hb dX6_takeKind_73 rfl (lv_at hl 1 rfl) ?_
              refine r_get (ci := 6) (k := 5) C hM kh0 f_X6_25 rfl dX6_takeKind_74 ?_
              obtain ⟨rv87, erv87, krv87⟩ : ∃ r : Option Nat, mR S 605 h0 = r ∧ ∀ q, r = some q → mK S q = 6 := ⟨_, rfl, TI.opt hI.1 (ci := 6) (k := 5) kh0⟩
              refine W.eq (g2 := F0 m 77 ls [va_rf rv87, .ref qv62, .long lv80, .ref h1, .ref h0]) (by rw [← erv87]; rfl) ?_
              refine lv_goto (tgt := 81) hx hb dX6_takeKind_77 (by decide) ?_
              refine r_VN (As := [.long lv80, .ref qv62, va_rf rv87]) (rest := [.ref h0]) (ci := 4) C hM (c_X4_add l D H0 S kc ns h1 lv80 (some qv62) rv87 hI hu kh1 (fun z h => by cases h; exact kqv62) (krv87) (fun z h => hrd.1 z ((erv61).trans h)) (fun z h => hrd.2 z ((erv87).trans h))) i_X4_add m_X6_91 kh1 rfl rfl rfl hl.1 rfl (Nat.le_of_ble_eq_true rfl) ⟨by decide, by decide⟩ ⟨by decide, by decide⟩ dX6_takeKind_81 (fun rv91 Sv88 kv89 nv90 H locs pv92 hM => ?_)
              obtain ⟨hx9, hI, hA3, hA4, hA5, hA6, hA7⟩ := pv92
              have kh0 : mK Sv88 h0 = 7 := (hx9).k kh0
              have kh1 : mK Sv88 h1 = 5 := (hx9).k kh1
              have hX := hX.trans hx9
              refine W.eq (g2 := F0 m 84 ls [va_rf rv91, .ref h0]) rfl ?_
              have krv91 : ∀ q, rv91 = some q → mK Sv88 q = 6 := fun q h => (hA7 q h).1
              refine r_put C hM kh0 f_X6_25 (fun r h => by cases h; rfl) (by cases rv91 <;> rfl) (by cases rv91 <;> rfl) (mPut.Rf (ci := 6) (k := 5) (x := rv91) rfl) dX6_takeKind_84 (fun H locs hM => ?_)
              have hM : mH D H0 (pR Sv88 605 h0 rv91) kv89 nv90 H locs := hM
              have hI : CI x0 (u + 61) tl rho (pR Sv88 605 h0 rv91) := CI.putR (ci := 6) (k := 5) hI kh0 (fun z h => ⟨krv91 z h, fun h => absurd rfl h⟩) (Or.inl rfl) (by decide) (by decide) (by decide)
              have hrd1 : RD (pR Sv88 605 h0 rv91) h0 h1 := ⟨fun q e => by have e2 : mR S 604 h0 = some q := (hA4 h0 kh0a).1.symm.trans e; have e3 := hrd.1 q e2; have e4 : mI (pR Sv88 605 h0 rv91) 501 q = mI S 501 q := hA3 q ((opt9 hI0 kh0a).1 e2); rw [e4]; exact Int.lt_of_lt_of_le e3 hA5, fun q e => by have e2 : rv91 = some q := (by simpa [mR, up2] using e); exact (hA7 q e2).2⟩
              refine lv_aload_n hx hb dX6_takeKind_87 rfl (lv_at hl 1 rfl) ?_
              refine lv_iconst (v := 2) hx hb dX6_takeKind_88 (by decide) ?_
              refine r_put C hM kh0 f_X6_18 (fun r h => by cases h; rfl) rfl rfl (mPut.I (ci := 6) (k := 3) rfl) dX6_takeKind_89 (fun H locs hM => ?_)
              have hM : mH D H0 (pI (pR Sv88 605 h0 rv91) 603 h0 2) kv89 nv90 H locs := hM
              have hI := hI.fe (fEq.I (S := (pR Sv88 605 h0 rv91)) (f := 603) (a := h0) (v := 2) (by decide))
              refine lv_iconst (v := 1) hx hb dX6_takeKind_92 (by decide) ?_
              refine W.widen (k := 1) (n := 17) (by first | decide | omega) (by first | decide | omega) ?_
              exact r_retZ C hr hlk rfl hM (⟨hX, hI, hrd1, hA6, by decide⟩) dX6_takeKind_93
          · have tcv78 := ltF cv78
            refine lv_iconst (v := 0) hx hb dX6_takeKind_54 (by decide) ?_
            refine W.widen (k := 1) (n := 17) (by first | decide | omega) (by first | decide | omega) ?_
            exact r_retZ C hr hlk rfl hM (⟨mX.rf, CI.ccLe hI (by omega), hrd, ⟨by omega, by omega⟩, by decide⟩) dX6_takeKind_55
    · have tcv58 := eqF cv58
      refine lv_aload_n hx hb dX6_takeKind_17 rfl (lv_at hl 1 rfl) ?_
      refine r_get (ci := 6) (k := 4) C hM kh0 f_X6_21 rfl dX6_takeKind_18 ?_
      obtain ⟨rv93, erv93, krv93⟩ : ∃ r : Option Nat, mR S 604 h0 = r ∧ ∀ q, r = some q → mK S q = 6 := ⟨_, rfl, TI.opt hI.1 (ci := 6) (k := 4) kh0⟩
      refine W.eq (g2 := F0 m 21 ls [va_rf rv93]) (by rw [← erv93]; rfl) ?_
      cases rv93 with
      | none =>
        refine lv_ifnonnullN hx hb dX6_takeKind_21 ?_
        refine lv_iconst (v := 0) hx hb dX6_takeKind_24 (by decide) ?_
        refine W.widen (k := 1) (n := 17) (by first | decide | omega) (by first | decide | omega) ?_
        exact r_retZ C hr hlk rfl hM (⟨mX.rf, CI.ccLe hI (by omega), hrd, ⟨by omega, by omega⟩, by decide⟩) dX6_takeKind_25
      | some qv94 =>
        have kqv94 : mK S qv94 = 6 := krv93 qv94 rfl
        refine lv_ifnonnull (tgt := 26) hx hb dX6_takeKind_21 (by decide) ?_
        refine lv_aload_n hx hb dX6_takeKind_26 rfl (lv_at hl 2 rfl) ?_
        refine r_getN (ci := 4) (k := 1) (v := .int (mI S 401 h1)) C hM kh1 f_X6_79 rfl dX6_takeKind_27 ?_
        refine lv_topi (fun xv95 exv95 => ?_)
        have fxv95 := NI.g401 hI.2 kh1 exv95
        refine lv_bipush (v := 60) hx hb dX6_takeKind_30 (by decide) ?_
        refine lv_icmp_ge (tgt := 54) hx hb dX6_takeKind_32 (by decide) (fun cv96 => ?_) (fun cv96 => ?_)
        · have tcv96 := leT cv96
          refine lv_iconst (v := 0) hx hb dX6_takeKind_54 (by decide) ?_
          refine W.widen (k := 1) (n := 17) (by first | decide | omega) (by first | decide | omega) ?_
          exact r_retZ C hr hlk rfl hM (⟨mX.rf, CI.ccLe hI (by omega), hrd, ⟨by omega, by omega⟩, by decide⟩) dX6_takeKind_55
        · have tcv96 := leF cv96
          refine lv_aload_n hx hb dX6_takeKind_35 rfl (lv_at hl 1 rfl) ?_
          refine r_get (ci := 6) (k := 4) (v := .ref qv94) C hM kh0 f_X6_21 (congrArg va_rf (erv93)) dX6_takeKind_36 ?_
          refine lv_ifnull hx hb dX6_takeKind_39 ?_
          refine lv_aload_n hx hb dX6_takeKind_42 rfl (lv_at hl 1 rfl) ?_
          refine r_get (ci := 6) (k := 4) (v := .ref qv94) C hM kh0 f_X6_21 (congrArg va_rf (erv93)) dX6_takeKind_43 ?_
          refine r_getN (ci := 5) (k := 7) (v := .int (mI S 507 qv94)) C hM kqv94 f_X6_82 rfl dX6_takeKind_46 ?_
          refine lv_topi (fun xv97 exv97 => ?_)
          refine lv_bipush (v := 11) hx hb dX6_takeKind_49 (by decide) ?_
          refine lv_icmp_lt (tgt := 56) hx hb dX6_takeKind_51 (by decide) (fun cv98 => ?_) (fun cv98 => ?_)
          · have tcv98 := ltT cv98
            refine lv_aload_n hx hb dX6_takeKind_56 rfl (lv_at hl 1 rfl) ?_
            refine lv_aload_n hx hb dX6_takeKind_57 rfl (lv_at hl 2 rfl) ?_
            refine lv_aload_n hx hb dX6_takeKind_58 rfl (lv_at hl 1 rfl) ?_
            obtain ⟨qv99, eqv99, kqv99, nqv99⟩ := TI.nn hI.1 (ci := 6) (k := 0) kh0
            refine r_get (ci := 6) (k := 0) (v := .ref qv99) C hM kh0 f_X6_33 (congrArg va_rf eqv99) dX6_takeKind_59 ?_
            refine r_getN (ci := 10) (k := 4) (v := .long (mL S 1004 qv99)) C hM kqv99 f_X6_87 rfl dX6_takeKind_62 ?_
            refine lv_topl (fun lv100 elv100 => ?_)
            refine lv_aload_n hx hb dX6_takeKind_65 rfl (lv_at hl 1 rfl) ?_
            refine r_get (ci := 6) (k := 4) (v := .ref qv94) C hM kh0 f_X6_21 (congrArg va_rf (erv93)) dX6_takeKind_66 ?_
            refine lv_iload_n hx hb dX6_takeKind_69 rfl (lv_at hl 0 rfl) ?_
            refine lv_if_eq (tgt := 80) hx hb dX6_takeKind_70 (by decide) (fun cv101 => ?_) (fun cv101 => ?_)
            · have tcv101 := eqT cv101
              refine lv_null hx hb dX6_takeKind_80 ?_
              refine r_VN (As := [.long lv100, .ref qv94, .null]) (rest := [.ref h0]) (ci := 4) C hM (c_X4_add l D H0 S kc ns h1 lv100 (some qv94) none hI hu kh1 (fun z h => by cases h; exact kqv94) (fun z h => by cases h) (fun z h => hrd.1 z ((erv93).trans h)) (fun z h => by cases h)) i_X4_add m_X6_91 kh1 rfl rfl rfl hl.1 rfl (Nat.le_of_ble_eq_true rfl) ⟨by decide, by decide⟩ ⟨by decide, by decide⟩ dX6_takeKind_81 (fun rv105 Sv102 kv103 nv104 H locs pv106 hM => ?_)
              obtain ⟨hx9, hI, hA3, hA4, hA5, hA6, hA7⟩ := pv106
              have kh0 : mK Sv102 h0 = 7 := (hx9).k kh0
              have kh1 : mK Sv102 h1 = 5 := (hx9).k kh1
              have hX := hX.trans hx9
              refine W.eq (g2 := F0 m 84 ls [va_rf rv105, .ref h0]) rfl ?_
              have krv105 : ∀ q, rv105 = some q → mK Sv102 q = 6 := fun q h => (hA7 q h).1
              refine r_put C hM kh0 f_X6_25 (fun r h => by cases h; rfl) (by cases rv105 <;> rfl) (by cases rv105 <;> rfl) (mPut.Rf (ci := 6) (k := 5) (x := rv105) rfl) dX6_takeKind_84 (fun H locs hM => ?_)
              have hM : mH D H0 (pR Sv102 605 h0 rv105) kv103 nv104 H locs := hM
              have hI : CI x0 (u + 61) tl rho (pR Sv102 605 h0 rv105) := CI.putR (ci := 6) (k := 5) hI kh0 (fun z h => ⟨krv105 z h, fun h => absurd rfl h⟩) (Or.inl rfl) (by decide) (by decide) (by decide)
              have hrd1 : RD (pR Sv102 605 h0 rv105) h0 h1 := ⟨fun q e => by have e2 : mR S 604 h0 = some q := (hA4 h0 kh0a).1.symm.trans e; have e3 := hrd.1 q e2; have e4 : mI (pR Sv102 605 h0 rv105) 501 q = mI S 501 q := hA3 q ((opt9 hI0 kh0a).1 e2); rw [e4]; exact Int.lt_of_lt_of_le e3 hA5, fun q e => by have e2 : rv105 = some q := (by simpa [mR, up2] using e); exact (hA7 q e2).2⟩
              refine lv_aload_n hx hb dX6_takeKind_87 rfl (lv_at hl 1 rfl) ?_
              refine lv_iconst (v := 2) hx hb dX6_takeKind_88 (by decide) ?_
              refine r_put C hM kh0 f_X6_18 (fun r h => by cases h; rfl) rfl rfl (mPut.I (ci := 6) (k := 3) rfl) dX6_takeKind_89 (fun H locs hM => ?_)
              have hM : mH D H0 (pI (pR Sv102 605 h0 rv105) 603 h0 2) kv103 nv104 H locs := hM
              have hI := hI.fe (fEq.I (S := (pR Sv102 605 h0 rv105)) (f := 603) (a := h0) (v := 2) (by decide))
              refine lv_iconst (v := 1) hx hb dX6_takeKind_92 (by decide) ?_
              refine W.widen (k := 1) (n := 17) (by first | decide | omega) (by first | decide | omega) ?_
              exact r_retZ C hr hlk rfl hM (⟨hX, hI, hrd1, hA6, by decide⟩) dX6_takeKind_93
            · have tcv101 := eqF cv101
              refine lv_aload_n hx hb dX6_takeKind_73 rfl (lv_at hl 1 rfl) ?_
              refine r_get (ci := 6) (k := 5) C hM kh0 f_X6_25 rfl dX6_takeKind_74 ?_
              obtain ⟨rv107, erv107, krv107⟩ : ∃ r : Option Nat, mR S 605 h0 = r ∧ ∀ q, r = some q → mK S q = 6 := ⟨_, rfl, TI.opt hI.1 (ci := 6) (k := 5) kh0⟩
              refine W.eq (g2 := F0 m 77 ls [va_rf rv107, .ref qv94, .long lv100, .ref h1, .ref h0]) (by rw [← erv107]; rfl) ?_
              refine lv_goto (tgt := 81) hx hb dX6_takeKind_77 (by decide) ?_
              refine r_VN (As := [.long lv100, .ref qv94, va_rf rv107]) (rest := [.ref h0]) (ci := 4) C hM (c_X4_add l D H0 S kc ns h1 lv100 (some qv94) rv107 hI hu kh1 (fun z h => by cases h; exact kqv94) (krv107) (fun z h => hrd.1 z ((erv93).trans h)) (fun z h => hrd.2 z ((erv107).trans h))) i_X4_add m_X6_91 kh1 rfl rfl rfl hl.1 rfl (Nat.le_of_ble_eq_true rfl) ⟨by decide, by decide⟩ ⟨by decide, by decide⟩ dX6_takeKind_81 (fun rv111 Sv108 kv109 nv110 H locs pv112 hM => ?_)
              obtain ⟨hx9, hI, hA3, hA4, hA5, hA6, hA7⟩ := pv112
              have kh0 : mK Sv108 h0 = 7 := (hx9).k kh0
              have kh1 : mK Sv108 h1 = 5 := (hx9).k kh1
              have hX := hX.trans hx9
              refine W.eq (g2 := F0 m 84 ls [va_rf rv111, .ref h0]) rfl ?_
              have krv111 : ∀ q, rv111 = some q → mK Sv108 q = 6 := fun q h => (hA7 q h).1
              refine r_put C hM kh0 f_X6_25 (fun r h => by cases h; rfl) (by cases rv111 <;> rfl) (by cases rv111 <;> rfl) (mPut.Rf (ci := 6) (k := 5) (x := rv111) rfl) dX6_takeKind_84 (fun H locs hM => ?_)
              have hM : mH D H0 (pR Sv108 605 h0 rv111) kv109 nv110 H locs := hM
              have hI : CI x0 (u + 61) tl rho (pR Sv108 605 h0 rv111) := CI.putR (ci := 6) (k := 5) hI kh0 (fun z h => ⟨krv111 z h, fun h => absurd rfl h⟩) (Or.inl rfl) (by decide) (by decide) (by decide)
              have hrd1 : RD (pR Sv108 605 h0 rv111) h0 h1 := ⟨fun q e => by have e2 : mR S 604 h0 = some q := (hA4 h0 kh0a).1.symm.trans e; have e3 := hrd.1 q e2; have e4 : mI (pR Sv108 605 h0 rv111) 501 q = mI S 501 q := hA3 q ((opt9 hI0 kh0a).1 e2); rw [e4]; exact Int.lt_of_lt_of_le e3 hA5, fun q e => by have e2 : rv111 = some q := (by simpa [mR, up2] using e); exact (hA7 q e2).2⟩
              refine lv_aload_n hx hb dX6_takeKind_87 rfl (lv_at hl 1 rfl) ?_
              refine lv_iconst (v := 2) hx hb dX6_takeKind_88 (by decide) ?_
              refine r_put C hM kh0 f_X6_18 (fun r h => by cases h; rfl) rfl rfl (mPut.I (ci := 6) (k := 3) rfl) dX6_takeKind_89 (fun H locs hM => ?_)
              have hM : mH D H0 (pI (pR Sv108 605 h0 rv111) 603 h0 2) kv109 nv110 H locs := hM
              have hI := hI.fe (fEq.I (S := (pR Sv108 605 h0 rv111)) (f := 603) (a := h0) (v := 2) (by decide))
              refine lv_iconst (v := 1) hx hb dX6_takeKind_92 (by decide) ?_
              refine W.widen (k := 1) (n := 17) (by first | decide | omega) (by first | decide | omega) ?_
              exact r_retZ C hr hlk rfl hM (⟨hX, hI, hrd1, hA6, by decide⟩) dX6_takeKind_93
          · have tcv98 := ltF cv98
            refine lv_iconst (v := 0) hx hb dX6_takeKind_54 (by decide) ?_
            refine W.widen (k := 1) (n := 17) (by first | decide | omega) (by first | decide | omega) ?_
            exact r_retZ C hr hlk rfl hM (⟨mX.rf, CI.ccLe hI (by omega), hrd, ⟨by omega, by omega⟩, by decide⟩) dX6_takeKind_55
set_option maxHeartbeats 4000000 in
set_option maxRecDepth 100000 in
theorem c_X6_takeToken (l : Launch) (D : gD) (H0 : gB) (S : Mem) (kc ns : Nat) (h0 h1 : Nat) {u : Nat} {tl : Int} {rho : Nat × Nat} (hI : CI x0 u tl rho S) (hu : u < 2000000000) (kh0 : mK S h0 = 7) (kh1 : mK S h1 = 5) (hrd : RD S h0 h1) : Met l yX6_takeToken (wsU yX6_takeToken cX6_takeToken 2 (some .boolean)) ({ frames := 4, cells := 1, slots := 17, locals := 96 } : Room) (mP D H0 S kc ns [.ref h0, .ref h1]) (mQ D H0 gI (fun r S1 k1 n1 => mX S S1 ∧ CI x0 (u + 61) tl rho S1 ∧ RD S1 h0 h1 ∧ ((k1 : Int) - kc = (mI S1 401 h1).toInt - (mI S 401 h1).toInt ∧ (n1 : Int) - ns = 17 * ((mI S1 401 h1).toInt - (mI S 401 h1).toInt)) ∧ (r = 0 ∨ r = 1))) 1 17 (mF H0) := by
  refine r_met (own := RX6) (by decide +kernel) rfl (Nat.le_of_ble_eq_true rfl) ?_
  intro p e s m args below meth c C hr hlk hnm H ls hl hM
  obtain ⟨hx, hb, hml, hown, hts, -, -⟩ := id C
  have hl : lv_has ls 2 [(0, .ref h0), (1, .ref h1)] := hl
  have hI0 := hI
  have hX : mX S S := mX.rf
  have t_0 : (0 : Int32).toInt = 0 := by decide
  have t_1 : (1 : Int32).toInt = 1 := by decide
  have t_2 : (2 : Int32).toInt = 2 := by decide
  refine lv_aload_n hx hb dX6_takeToken_0 rfl (lv_at hl 0 rfl) ?_
  obtain ⟨qv1, eqv1, kqv1, nqv1⟩ := TI.nn hI.1 (ci := 6) (k := 0) kh0
  refine r_get (ci := 6) (k := 0) (v := .ref qv1) C hM kh0 f_X6_33 (congrArg va_rf eqv1) dX6_takeToken_1 ?_
  refine r_getN (ci := 10) (k := 2) (v := .int (mI S 1002 qv1)) C hM kqv1 f_X6_46 rfl dX6_takeToken_4 ?_
  refine lv_topi (fun xv2 exv2 => ?_)
  by_cases hv3_0 : xv2.toInt = 1
  · refine lv_tableIn (off := 37) (tgt := 44) hx hb dX6_takeToken_7 (by omega) (by omega) (by rw [hv3_0]; rfl) (by decide) ?_
    refine lv_aload_n hx hb dX6_takeToken_44 rfl (lv_at hl 0 rfl) ?_
    refine r_get (ci := 6) (k := 3) (v := .int (mI S 603 h0)) C hM kh0 f_X6_18 rfl dX6_takeToken_45 ?_
    refine lv_topi (fun xv4 exv4 => ?_)
    refine lv_iconst (v := 1) hx hb dX6_takeToken_48 (by decide) ?_
    refine lv_icmp_ne (tgt := 59) hx hb dX6_takeToken_49 (by decide) (fun cv5 => ?_) (fun cv5 => ?_)
    · have tcv5 := eqF cv5
      refine lv_aload_n hx hb dX6_takeToken_59 rfl (lv_at hl 0 rfl) ?_
      refine lv_aload_n hx hb dX6_takeToken_60 rfl (lv_at hl 1 rfl) ?_
      refine r_V (As := [.ref h1]) (rest := []) (ci := 6) C hM (c_X6_takeKind l D H0 S kc ns h0 h1 hI hu kh0 kh1 hrd) i_X6_takeKind m_X6_60 kh0 rfl rfl rfl hl.1 rfl (Nat.le_of_ble_eq_true rfl) ⟨by decide, by decide⟩ ⟨by decide, by decide⟩ dX6_takeToken_61 (fun xv9 Sv6 kv7 nv8 H locs pv10 hM => ?_)
      obtain ⟨hx9, hI, hrd9, hcn9, hxv9⟩ := pv10
      have kh0 : mK Sv6 h0 = 7 := (hx9).k kh0
      have kh1 : mK Sv6 h1 = 5 := (hx9).k kh1
      have hX := hX.trans hx9
      refine W.eq (g2 := F0 m 64 ls [.int xv9]) rfl ?_
      refine W.widen (k := 1) (n := 17) (by first | decide | omega) (by first | decide | omega) ?_
      exact r_retZ C hr hlk (nzb hxv9) hM (by first | exact ⟨hx9, hI, hrd9, hcn9, hxv9⟩ | exact ⟨mX.of hf9.1, CI.ccLe hI (by omega), hrd.fe hf9, by rw [hf9.2.2.2.2 401 (by decide)]; exact ⟨by omega, by omega⟩, hxv9⟩) dX6_takeToken_64
    · have tcv5 := eqT cv5
      refine lv_aload_n hx hb dX6_takeToken_52 rfl (lv_at hl 0 rfl) ?_
      refine r_V (As := []) (rest := []) (ci := 6) C hM (c_X6_takeName l D H0 S kc ns h0 hI kh0) i_X6_takeName m_X6_56 kh0 rfl rfl rfl hl.1 rfl (Nat.le_of_ble_eq_true rfl) ⟨by decide, by decide⟩ ⟨by decide, by decide⟩ dX6_takeToken_53 (fun xv14 Sv11 kv12 nv13 H locs pv15 hM => ?_)
      obtain ⟨rfl, rfl, hf9, hxv14⟩ := pv15
      have hI := hI.fe hf9
      have kh0 : mK Sv11 h0 = 7 := (congrFun (hf9.1) h0).trans kh0
      have kh1 : mK Sv11 h1 = 5 := (congrFun (hf9.1) h1).trans kh1
      have kqv1 : mK Sv11 qv1 = 11 := (congrFun (hf9.1) qv1).trans kqv1
      have vv16 : mR Sv11 600 h0 = some qv1 := (congrFun (congrFun hf9.2.1 600) h0).trans (eqv1)
      have hX := hX.trans (mX.of hf9.1)
      refine W.eq (g2 := F0 m 56 ls [.int xv14]) rfl ?_
      refine lv_goto (tgt := 64) hx hb dX6_takeToken_56 (by decide) ?_
      refine W.widen (k := 1) (n := 17) (by first | decide | omega) (by first | decide | omega) ?_
      exact r_retZ C hr hlk (nzb hxv14) hM (by first | exact ⟨hx9, hI, hrd9, hcn9, hxv14⟩ | exact ⟨mX.of hf9.1, CI.ccLe hI (by omega), hrd.fe hf9, by rw [hf9.2.2.2.2 401 (by decide)]; exact ⟨by omega, by omega⟩, hxv14⟩) dX6_takeToken_64
  by_cases hv3_1 : xv2.toInt = 2
  · refine lv_tableIn (off := 65) (tgt := 72) hx hb dX6_takeToken_7 (by omega) (by omega) (by rw [hv3_1]; rfl) (by decide) ?_
    refine lv_aload_n hx hb dX6_takeToken_72 rfl (lv_at hl 0 rfl) ?_
    refine r_V (As := []) (rest := []) (ci := 6) C hM (c_X6_takeText l D H0 S kc ns h0 hI kh0) i_X6_takeText m_X6_67 kh0 rfl rfl rfl hl.1 rfl (Nat.le_of_ble_eq_true rfl) ⟨by decide, by decide⟩ ⟨by decide, by decide⟩ dX6_takeToken_73 (fun xv20 Sv17 kv18 nv19 H locs pv21 hM => ?_)
    obtain ⟨rfl, rfl, hf9, hxv20⟩ := pv21
    have hI := hI.fe hf9
    have kh0 : mK Sv17 h0 = 7 := (congrFun (hf9.1) h0).trans kh0
    have kh1 : mK Sv17 h1 = 5 := (congrFun (hf9.1) h1).trans kh1
    have kqv1 : mK Sv17 qv1 = 11 := (congrFun (hf9.1) qv1).trans kqv1
    have vv22 : mR Sv17 600 h0 = some qv1 := (congrFun (congrFun hf9.2.1 600) h0).trans (eqv1)
    have hX := hX.trans (mX.of hf9.1)
    refine W.eq (g2 := F0 m 76 ls [.int xv20]) rfl ?_
    refine W.widen (k := 1) (n := 17) (by first | decide | omega) (by first | decide | omega) ?_
    exact r_retZ C hr hlk (nzb hxv20) hM (⟨mX.of hf9.1, CI.ccLe hI (by omega), hrd.fe hf9, by rw [hf9.2.2.2.2 401 (by decide)]; exact ⟨by omega, by omega⟩, hxv20⟩) dX6_takeToken_76
  by_cases hv3_2 : xv2.toInt = 3
  · refine lv_tableIn (off := 58) (tgt := 65) hx hb dX6_takeToken_7 (by omega) (by omega) (by rw [hv3_2]; rfl) (by decide) ?_
    refine lv_aload_n hx hb dX6_takeToken_65 rfl (lv_at hl 0 rfl) ?_
    refine lv_iconst (v := 2) hx hb dX6_takeToken_66 (by decide) ?_
    refine lv_iconst (v := 1) hx hb dX6_takeToken_67 (by decide) ?_
    refine r_V (As := [.int 2, .int 1]) (rest := []) (ci := 6) C hM (c_X6_move l D H0 S kc ns h0 2 1 hI kh0) i_X6_move m_X6_63 kh0 rfl rfl rfl hl.1 rfl (Nat.le_of_ble_eq_true rfl) ⟨by decide, by decide⟩ ⟨by decide, by decide⟩ dX6_takeToken_68 (fun xv26 Sv23 kv24 nv25 H locs pv27 hM => ?_)
    obtain ⟨rfl, rfl, hf9, hmz, hmv⟩ := pv27
    have hI := hI.fe hf9
    have kh0 : mK Sv23 h0 = 7 := (congrFun (hf9.1) h0).trans kh0
    have kh1 : mK Sv23 h1 = 5 := (congrFun (hf9.1) h1).trans kh1
    have kqv1 : mK Sv23 qv1 = 11 := (congrFun (hf9.1) qv1).trans kqv1
    have vv28 : mR Sv23 600 h0 = some qv1 := (congrFun (congrFun hf9.2.1 600) h0).trans (eqv1)
    have hX := hX.trans (mX.of hf9.1)
    refine W.eq (g2 := F0 m 71 ls [.int xv26]) rfl ?_
    have hxv26 := hmz
    refine W.widen (k := 1) (n := 17) (by first | decide | omega) (by first | decide | omega) ?_
    exact r_retZ C hr hlk (nzb hxv26) hM (⟨mX.of hf9.1, CI.ccLe hI (by omega), hrd.fe hf9, by rw [hf9.2.2.2.2 401 (by decide)]; exact ⟨by omega, by omega⟩, hxv26⟩) dX6_takeToken_71
  by_cases hv3_3 : xv2.toInt = 4
  · refine lv_tableIn (off := 70) (tgt := 77) hx hb dX6_takeToken_7 (by omega) (by omega) (by rw [hv3_3]; rfl) (by decide) ?_
    refine lv_aload_n hx hb dX6_takeToken_77 rfl (lv_at hl 0 rfl) ?_
    refine r_V (As := []) (rest := []) (ci := 6) C hM (c_X6_takeHarm l D H0 S kc ns h0 hI kh0) i_X6_takeHarm m_X6_70 kh0 rfl rfl rfl hl.1 rfl (Nat.le_of_ble_eq_true rfl) ⟨by decide, by decide⟩ ⟨by decide, by decide⟩ dX6_takeToken_78 (fun xv32 Sv29 kv30 nv31 H locs pv33 hM => ?_)
    obtain ⟨rfl, rfl, hf9, hxv32⟩ := pv33
    have hI := hI.fe hf9
    have kh0 : mK Sv29 h0 = 7 := (congrFun (hf9.1) h0).trans kh0
    have kh1 : mK Sv29 h1 = 5 := (congrFun (hf9.1) h1).trans kh1
    have kqv1 : mK Sv29 qv1 = 11 := (congrFun (hf9.1) qv1).trans kqv1
    have vv34 : mR Sv29 600 h0 = some qv1 := (congrFun (congrFun hf9.2.1 600) h0).trans (eqv1)
    have hX := hX.trans (mX.of hf9.1)
    refine W.eq (g2 := F0 m 81 ls [.int xv32]) rfl ?_
    refine W.widen (k := 1) (n := 17) (by first | decide | omega) (by first | decide | omega) ?_
    exact r_retZ C hr hlk (nzb hxv32) hM (⟨mX.of hf9.1, CI.ccLe hI (by omega), hrd.fe hf9, by rw [hf9.2.2.2.2 401 (by decide)]; exact ⟨by omega, by omega⟩, hxv32⟩) dX6_takeToken_81
  by_cases hv3_4 : xv2.toInt = 5
  · refine lv_tableIn (off := 75) (tgt := 82) hx hb dX6_takeToken_7 (by omega) (by omega) (by rw [hv3_4]; rfl) (by decide) ?_
    refine lv_aload_n hx hb dX6_takeToken_82 rfl (lv_at hl 0 rfl) ?_
    refine r_V (As := []) (rest := []) (ci := 6) C hM (c_X6_goDown l D H0 S kc ns h0 hI kh0) i_X6_goDown m_X6_73 kh0 rfl rfl rfl hl.1 rfl (Nat.le_of_ble_eq_true rfl) ⟨by decide, by decide⟩ ⟨by decide, by decide⟩ dX6_takeToken_83 (fun xv38 Sv35 kv36 nv37 H locs pv39 hM => ?_)
    obtain ⟨rfl, rfl, hk9, hI, h401, hrd9, hxv38⟩ := pv39
    have kh0 : mK Sv35 h0 = 7 := (congrFun (hk9) h0).trans kh0
    have kh1 : mK Sv35 h1 = 5 := (congrFun (hk9) h1).trans kh1
    have hX := hX.trans (mX.of hk9)
    refine W.eq (g2 := F0 m 86 ls [.int xv38]) rfl ?_
    refine W.widen (k := 1) (n := 17) (by first | decide | omega) (by first | decide | omega) ?_
    exact r_retZ C hr hlk (nzb hxv38) hM (⟨mX.of hk9, CI.ccLe hI (by omega), hrd9 h1 hrd, by rw [h401]; exact ⟨by omega, by omega⟩, hxv38⟩) dX6_takeToken_86
  by_cases hv3_5 : xv2.toInt = 6
  · refine lv_tableIn (off := 80) (tgt := 87) hx hb dX6_takeToken_7 (by omega) (by omega) (by rw [hv3_5]; rfl) (by decide) ?_
    refine lv_aload_n hx hb dX6_takeToken_87 rfl (lv_at hl 0 rfl) ?_
    refine r_V (As := []) (rest := []) (ci := 6) C hM (c_X6_goUp l D H0 S kc ns h0 hI kh0) i_X6_goUp m_X6_76 kh0 rfl rfl rfl hl.1 rfl (Nat.le_of_ble_eq_true rfl) ⟨by decide, by decide⟩ ⟨by decide, by decide⟩ dX6_takeToken_88 (fun xv43 Sv40 kv41 nv42 H locs pv44 hM => ?_)
    obtain ⟨rfl, rfl, hk9, hI, h401, hrd9, hxv43⟩ := pv44
    have kh0 : mK Sv40 h0 = 7 := (congrFun (hk9) h0).trans kh0
    have kh1 : mK Sv40 h1 = 5 := (congrFun (hk9) h1).trans kh1
    have hX := hX.trans (mX.of hk9)
    refine W.eq (g2 := F0 m 91 ls [.int xv43]) rfl ?_
    refine W.widen (k := 1) (n := 17) (by first | decide | omega) (by first | decide | omega) ?_
    exact r_retZ C hr hlk (nzb hxv43) hM (⟨mX.of hk9, CI.ccLe hI (by omega), hrd9 h1 hrd, by rw [h401]; exact ⟨by omega, by omega⟩, hxv43⟩) dX6_takeToken_91
  refine lv_tableOut (tgt := 92) hx hb dX6_takeToken_7 (by omega) (by decide) ?_
  refine lv_iconst (v := 0) hx hb dX6_takeToken_92 (by decide) ?_
  refine W.widen (k := 1) (n := 17) (by first | decide | omega) (by first | decide | omega) ?_
  exact r_retZ C hr hlk rfl hM (⟨mX.rf, CI.ccLe hI (by omega), hrd, ⟨by omega, by omega⟩, by decide⟩) dX6_takeToken_93
set_option maxHeartbeats 4000000 in
set_option maxRecDepth 100000 in
theorem c_X6_readPage (l : Launch) (D : gD) (H0 : gB) (S : Mem) (kc ns : Nat) (h0 : Nat) {u : Nat} {tl : Int} {rho : Nat × Nat} (hI : CI x0 u tl rho S) (hu : u < 1900000000) (kh0 : mK S h0 = 7) : Met l yX6_readPage (wsU yX6_readPage cX6_readPage 3 (some (.object "ClickBench$Page"))) ({ frames := 5, cells := 63, slots := 1099, locals := 117 } : Room) (mP D H0 S kc ns [.ref h0]) (mQ D H0 gR (fun r S1 k1 n1 => k1 ≤ kc + 62 ∧ n1 ≤ ns + 1082 ∧ mX S S1 ∧ CI x0 (u + 97661) tl rho S1 ∧ ∀ q, r = some q → mK S1 q = 5)) 63 1099 (mF H0) := by
  refine r_metH (own := RX6) (by decide +kernel) rfl (Nat.le_of_ble_eq_true rfl) ?_
  intro p e s m args below meth c C hr hlk hnm hM0 H ls hl hM
  obtain ⟨hx, hb, hml, hown, hts, -, -⟩ := id C
  have hl : lv_has ls 3 [(0, .ref h0)] := hl
  have hI0 := hI
  have hX : mX S S := mX.rf
  have t_m1 : (-1 : Int32).toInt = -1 := by decide
  have t_0 : (0 : Int32).toInt = 0 := by decide
  have t_1 : (1 : Int32).toInt = 1 := by decide
  have t_2 : (2 : Int32).toInt = 2 := by decide
  have t_7 : (7 : Int32).toInt = 7 := by decide
  have t_1600 : (1600 : Int32).toInt = 1600 := by decide
  refine r_new (ci := 4) C hM rfl k_X6_37 in_X4 ini_X4 (by decide) (by decide) dX6_readPage_0 (fun qv1 H zqv1 hM => ?_)
  have hM : mH D H0 (nO S qv1 4) (kc + 1) (ns + 2) H [] := hM
  have kh0 : mK (nO S qv1 4) h0 = 7 := (mX.O (S := S) (a := qv1) (ci := 4) zqv1).k kh0
  have kqv1 : mK (nO S qv1 4) qv1 = 5 := kO
  have hX := hX.trans (mX.O (ci := 4) zqv1)
  have hI := CI.newO (ci := 4) hI zqv1 (by decide) (by decide)
  have hI : CI (xl x0 qv1 [400]) u tl rho (nO S qv1 4) := CI.todo (ci := 4) hI kqv1 (by decide)
  refine lv_dup hx hb dX6_readPage_3 rfl ?_
  refine r_IN (As := []) (rest := [.ref qv1]) C hM (c_X4_init l D H0 (nO S qv1 4) (kc + 1) (ns + 2) qv1 hI kqv1) i_X4_init m_X6_39 rfl hl.1 rfl (Nat.le_of_ble_eq_true rfl) ⟨by decide, by decide⟩ ⟨by decide, by decide⟩ dX6_readPage_4 (fun uv5 Sv2 kv3 nv4 H locs pv6 hM => ?_)
  obtain ⟨rfl, rfl, hx9, hI, hcn0⟩ := pv6
  have kh0 : mK Sv2 h0 = 7 := (hx9).k kh0
  have kqv1 : mK Sv2 qv1 = 5 := (hx9).k kqv1
  have hX := hX.trans hx9
  refine W.eq (g2 := F0 m 7 ls [.ref qv1]) rfl ?_
  refine lv_astore_n (lv' := [(1, .ref qv1), (0, .ref h0)]) hx hb dX6_readPage_7 rfl hl (by decide) rfl (fun ls hl => ?_)
  refine lv_aload_n hx hb dX6_readPage_8 rfl (lv_at hl 1 rfl) ?_
  obtain ⟨qv7, eqv7, kqv7, nqv7⟩ := TI.nn hI.1 (ci := 6) (k := 0) kh0
  refine r_get (ci := 6) (k := 0) (v := .ref qv7) C hM kh0 f_X6_33 (congrArg va_rf eqv7) dX6_readPage_9 ?_
  refine r_VN (As := []) (rest := []) (ci := 10) C hM (c_X10_rewind l D H0 Sv2 ((kc + 1) + 1) ((ns + 2) + 60) qv7 hI kqv7) i_X10_rewind m_X6_40 kqv7 rfl rfl rfl hl.1 rfl (Nat.le_of_ble_eq_true rfl) ⟨by decide, by decide⟩ ⟨by decide, by decide⟩ dX6_readPage_12 (fun uv11 Sv8 kv9 nv10 H locs pv12 hM => ?_)
  obtain ⟨rfl, rfl, hf9, huv11⟩ := pv12
  have hI := hI.fe hf9
  have kqv1 : mK Sv8 qv1 = 5 := (congrFun (hf9.1) qv1).trans kqv1
  have kh0 : mK Sv8 h0 = 7 := (congrFun (hf9.1) h0).trans kh0
  have kqv7 : mK Sv8 qv7 = 11 := (congrFun (hf9.1) qv7).trans kqv7
  have vv13 : mR Sv8 600 h0 = some qv7 := (congrFun (congrFun hf9.2.1 600) h0).trans (eqv7)
  have hX := hX.trans (mX.of hf9.1)
  refine W.eq (g2 := F0 m 15 ls []) rfl ?_
  refine lv_aload_n hx hb dX6_readPage_15 rfl (lv_at hl 1 rfl) ?_
  refine lv_iconst (v := 0) hx hb dX6_readPage_16 (by decide) ?_
  refine r_put C hM kh0 f_X6_11 (fun r h => by cases h; rfl) rfl rfl (mPut.I (ci := 6) (k := 1) rfl) dX6_readPage_17 (fun H locs hM => ?_)
  have hM : mH D H0 (pI Sv8 601 h0 0) ((kc + 1) + 1) ((ns + 2) + 60) H locs := hM
  have hI := hI.fe (fEq.I (S := Sv8) (f := 601) (a := h0) (v := 0) (by decide))
  refine lv_aload_n hx hb dX6_readPage_20 rfl (lv_at hl 1 rfl) ?_
  refine lv_iconst (v := -1) hx hb dX6_readPage_21 (by decide) ?_
  refine r_put C hM kh0 f_X6_15 (fun r h => by cases h; rfl) rfl rfl (mPut.I (ci := 6) (k := 2) rfl) dX6_readPage_22 (fun H locs hM => ?_)
  have hM : mH D H0 (pI (pI Sv8 601 h0 0) 602 h0 (-1)) ((kc + 1) + 1) ((ns + 2) + 60) H locs := hM
  have hI := hI.fe (fEq.I (S := (pI Sv8 601 h0 0)) (f := 602) (a := h0) (v := (-1)) (by decide))
  refine lv_aload_n hx hb dX6_readPage_25 rfl (lv_at hl 1 rfl) ?_
  refine lv_iconst (v := 0) hx hb dX6_readPage_26 (by decide) ?_
  refine r_put C hM kh0 f_X6_18 (fun r h => by cases h; rfl) rfl rfl (mPut.I (ci := 6) (k := 3) rfl) dX6_readPage_27 (fun H locs hM => ?_)
  have hM : mH D H0 (pI (pI (pI Sv8 601 h0 0) 602 h0 (-1)) 603 h0 0) ((kc + 1) + 1) ((ns + 2) + 60) H locs := hM
  have hI := hI.fe (fEq.I (S := (pI (pI Sv8 601 h0 0) 602 h0 (-1))) (f := 603) (a := h0) (v := 0) (by decide))
  refine lv_aload_n hx hb dX6_readPage_30 rfl (lv_at hl 1 rfl) ?_
  refine lv_null hx hb dX6_readPage_31 ?_
  refine r_put C hM kh0 f_X6_21 (fun r h => by cases h; rfl) rfl rfl (mPut.Rf (ci := 6) (k := 4) (x := none) rfl) dX6_readPage_32 (fun H locs hM => ?_)
  have hM : mH D H0 (pR (pI (pI (pI Sv8 601 h0 0) 602 h0 (-1)) 603 h0 0) 604 h0 none) ((kc + 1) + 1) ((ns + 2) + 60) H locs := hM
  have hI : CI x0 u tl rho (pR (pI (pI (pI Sv8 601 h0 0) 602 h0 (-1)) 603 h0 0) 604 h0 none) := CI.putR (ci := 6) (k := 4) hI kh0 (fun z h => by cases h) (Or.inl rfl) (by decide) (by decide) (by decide)
  refine lv_aload_n hx hb dX6_readPage_35 rfl (lv_at hl 1 rfl) ?_
  refine lv_null hx hb dX6_readPage_36 ?_
  refine r_put C hM kh0 f_X6_25 (fun r h => by cases h; rfl) rfl rfl (mPut.Rf (ci := 6) (k := 5) (x := none) rfl) dX6_readPage_37 (fun H locs hM => ?_)
  have hM : mH D H0 (pR (pR (pI (pI (pI Sv8 601 h0 0) 602 h0 (-1)) 603 h0 0) 604 h0 none) 605 h0 none) ((kc + 1) + 1) ((ns + 2) + 60) H locs := hM
  have hI : CI x0 u tl rho (pR (pR (pI (pI (pI Sv8 601 h0 0) 602 h0 (-1)) 603 h0 0) 604 h0 none) 605 h0 none) := CI.putR (ci := 6) (k := 5) hI kh0 (fun z h => by cases h) (Or.inl rfl) (by decide) (by decide) (by decide)
  refine lv_iconst (v := 0) hx hb dX6_readPage_40 (by decide) ?_
  refine lv_istore_n (lv' := [(2, .int 0), (1, .ref qv1), (0, .ref h0)]) hx hb dX6_readPage_41 rfl hl (by decide) rfl (fun ls hl => ?_)
  have hc42 : (mI (pR (pR (pI (pI (pI Sv8 601 h0 0) 602 h0 (-1)) 603 h0 0) 604 h0 none) 605 h0 none) 401 qv1 ).toInt = 0 := by rw [show mI (pR (pR (pI (pI (pI Sv8 601 h0 0) 602 h0 (-1)) 603 h0 0) 604 h0 none) 605 h0 none) 401 qv1 = 0 from (congrFun (hf9.2.2.2.2 401 (by decide)) qv1 ).trans hcn0]; rfl
  have hrd : RD (pR (pR (pI (pI (pI Sv8 601 h0 0) 602 h0 (-1)) 603 h0 0) 604 h0 none) 605 h0 none) h0 qv1 := ⟨fun q e => by simp [mR, up2] at e, fun q e => by simp [mR, up2] at e⟩
  have hI : CI x0 (u + 61 * (0 : Int32).toInt.toNat) tl rho (pR (pR (pI (pI (pI Sv8 601 h0 0) 602 h0 (-1)) 603 h0 0) 604 h0 none) 605 h0 none) := CI.ccLe hI (by omega)
  refine W.widen (k := 62) (n := 1082) (by first | decide | omega) (by first | decide | omega) ?_
  have loop42 : ∀ (fu : Nat) (j : Int32) (Sa : Mem) (H : Heap) (locs : List Loc) (k9 n9 : Nat) (ls : Array Slot), (mX S Sa) → (CI x0 (u + 61 * j.toInt.toNat) tl rho Sa) → (RD Sa h0 qv1 ) → ((k9 : Int) = kc + 2 + (mI Sa 401 qv1 ).toInt ∧ (n9 : Int) = ns + 62 + 17 * (mI Sa 401 qv1 ).toInt) → (0 ≤ j.toInt ∧ j.toInt ≤ 1601) → (mK Sa qv1 = 5) → (mK Sa h0 = 7) → (1601 - j.toInt).toNat < fu → lv_has ls 3 [(0, .ref h0), (1, .ref qv1), (2, .int j)] → mH D H0 Sa k9 n9 H locs → W p l e ({ frames := 5, cells := 63, slots := 1099, locals := 117 } : Room) s m args below meth c H locs 62 1082 (MQ below (mQ D H0 gR (fun r S1 k1 n1 => k1 ≤ kc + 62 ∧ n1 ≤ ns + 1082 ∧ mX S S1 ∧ CI x0 (u + 97661) tl rho S1 ∧ ∀ q, r = some q → mK S1 q = 5)) args s 63 1099 (mF H0)) (F0 m 42 ls []) := by
    intro fu
    induction fu with
    | zero => intro j Sa H locs k9 n9 ls h42_0 h42_1 h42_2 h42_3 h42_4 h42_5 h42_6 hfu; exact absurd hfu (by omega)
    | succ fu ih42 =>
      intro j Sa H locs k9 n9 ls h42_0 h42_1 h42_2 h42_3 h42_4 h42_5 h42_6 hfu hl hM
      have hX := h42_0
      have hI := h42_1
      have kqv1 := h42_5
      have kh0 := h42_6
      have hrd := h42_2
      have hkn := h42_3
      have hj := h42_4
      have hc9 := NI.f401 hI.2 kqv1 
      refine lv_iload_n hx hb dX6_readPage_42 rfl (lv_at hl 2 rfl) ?_
      refine lv_sipush (v := 1600) hx hb dX6_readPage_43 (by decide) ?_
      refine lv_icmp_gt (tgt := 100) hx hb dX6_readPage_46 (by decide) (fun cv14 => ?_) (fun cv14 => ?_)
      · have tcv14 := ltT cv14
        refine lv_aload_n hx hb dX6_readPage_100 rfl (lv_at hl 0 rfl) ?_
        refine lv_aload_n hx hb dX6_readPage_101 rfl (lv_at hl 0 rfl) ?_
        obtain ⟨qv15, eqv15, kqv15, nqv15⟩ := TI.nn hI.1 (ci := 6) (k := 0) kh0
        refine r_get (ci := 6) (k := 0) (v := .ref qv15) C hM kh0 f_X6_33 (congrArg va_rf eqv15) dX6_readPage_102 ?_
        refine r_getN (ci := 10) (k := 2) (v := .int (mI Sa 1002 qv15)) C hM kqv15 f_X6_46 rfl dX6_readPage_105 ?_
        refine lv_topi (fun xv16 exv16 => ?_)
        refine lv_bipush (v := 7) hx hb dX6_readPage_108 (by decide) ?_
        refine lv_icmp_ne (tgt := 117) hx hb dX6_readPage_110 (by decide) (fun cv17 => ?_) (fun cv17 => ?_)
        · have tcv17 := eqF cv17
          refine lv_iconst (v := 2) hx hb dX6_readPage_117 (by decide) ?_
          refine r_put C hM kh0 f_X6_11 (fun r h => by cases h; rfl) rfl rfl (mPut.I (ci := 6) (k := 1) rfl) dX6_readPage_118 (fun H locs hM => ?_)
          have hM : mH D H0 (pI Sa 601 h0 2) k9 n9 H locs := hM
          have hI := hI.fe (fEq.I (S := Sa) (f := 601) (a := h0) (v := 2) (by decide))
          refine lv_aload_n hx hb dX6_readPage_121 rfl (lv_at hl 0 rfl) ?_
          refine lv_aload_n hx hb dX6_readPage_122 rfl (lv_at hl 0 rfl) ?_
          refine r_get (ci := 6) (k := 0) (v := .ref qv15) C hM kh0 f_X6_33 (congrArg va_rf (eqv15)) dX6_readPage_123 ?_
          refine r_getN (ci := 10) (k := 3) (v := .int (mI (pI Sa 601 h0 2) 1003 qv15)) C hM kqv15 f_X6_53 rfl dX6_readPage_126 ?_
          refine lv_topi (fun xv18 exv18 => ?_)
          refine r_put C hM kh0 f_X6_15 (fun r h => by cases h; rfl) rfl rfl (mPut.I (ci := 6) (k := 2) rfl) dX6_readPage_129 (fun H locs hM => ?_)
          have hM : mH D H0 (pI (pI Sa 601 h0 2) 602 h0 xv18) k9 n9 H locs := hM
          have hI := hI.fe (fEq.I (S := (pI Sa 601 h0 2)) (f := 602) (a := h0) (v := xv18) (by decide))
          refine lv_null hx hb dX6_readPage_132 ?_
          refine W.widen (k := 63) (n := 1099) (by first | decide | omega) (by first | decide | omega) ?_
          exact r_retR (v := none) C hr hlk hM (⟨by omega, by omega, hX, CI.ccLe hI (by omega), fun z h => by cases h⟩) dX6_readPage_133
        · have tcv17 := eqT cv17
          refine lv_iconst (v := 1) hx hb dX6_readPage_113 (by decide) ?_
          refine lv_goto (tgt := 118) hx hb dX6_readPage_114 (by decide) ?_
          refine r_put C hM kh0 f_X6_11 (fun r h => by cases h; rfl) rfl rfl (mPut.I (ci := 6) (k := 1) rfl) dX6_readPage_118 (fun H locs hM => ?_)
          have hM : mH D H0 (pI Sa 601 h0 1) k9 n9 H locs := hM
          have hI := hI.fe (fEq.I (S := Sa) (f := 601) (a := h0) (v := 1) (by decide))
          refine lv_aload_n hx hb dX6_readPage_121 rfl (lv_at hl 0 rfl) ?_
          refine lv_aload_n hx hb dX6_readPage_122 rfl (lv_at hl 0 rfl) ?_
          refine r_get (ci := 6) (k := 0) (v := .ref qv15) C hM kh0 f_X6_33 (congrArg va_rf (eqv15)) dX6_readPage_123 ?_
          refine r_getN (ci := 10) (k := 3) (v := .int (mI (pI Sa 601 h0 1) 1003 qv15)) C hM kqv15 f_X6_53 rfl dX6_readPage_126 ?_
          refine lv_topi (fun xv19 exv19 => ?_)
          refine r_put C hM kh0 f_X6_15 (fun r h => by cases h; rfl) rfl rfl (mPut.I (ci := 6) (k := 2) rfl) dX6_readPage_129 (fun H locs hM => ?_)
          have hM : mH D H0 (pI (pI Sa 601 h0 1) 602 h0 xv19) k9 n9 H locs := hM
          have hI := hI.fe (fEq.I (S := (pI Sa 601 h0 1)) (f := 602) (a := h0) (v := xv19) (by decide))
          refine lv_null hx hb dX6_readPage_132 ?_
          refine W.widen (k := 63) (n := 1099) (by first | decide | omega) (by first | decide | omega) ?_
          exact r_retR (v := none) C hr hlk hM (⟨by omega, by omega, hX, CI.ccLe hI (by omega), fun z h => by cases h⟩) dX6_readPage_133
      · have tcv14 := ltF cv14
        refine lv_aload_n hx hb dX6_readPage_49 rfl (lv_at hl 0 rfl) ?_
        obtain ⟨qv20, eqv20, kqv20, nqv20⟩ := TI.nn hI.1 (ci := 6) (k := 0) kh0
        refine r_get (ci := 6) (k := 0) (v := .ref qv20) C hM kh0 f_X6_33 (congrArg va_rf eqv20) dX6_readPage_50 ?_
        refine r_VN (As := []) (rest := []) (ci := 10) C hM (c_X10_advance l D H0 Sa k9 n9 qv20 hI kqv20) i_X10_advance m_X6_43 kqv20 rfl rfl rfl hl.1 rfl (Nat.le_of_ble_eq_true rfl) ⟨by decide, by decide⟩ ⟨by decide, by decide⟩ dX6_readPage_53 (fun uv24 Sv21 kv22 nv23 H locs pv25 hM => ?_)
        obtain ⟨rfl, rfl, hf9, huv24⟩ := pv25
        have hI := hI.fe hf9
        have kh0 : mK Sv21 h0 = 7 := (congrFun (hf9.1) h0).trans kh0
        have kqv1 : mK Sv21 qv1 = 5 := (congrFun (hf9.1) qv1).trans kqv1
        have kqv20 : mK Sv21 qv20 = 11 := (congrFun (hf9.1) qv20).trans kqv20
        have vv26 : mR Sv21 600 h0 = some qv20 := (congrFun (congrFun hf9.2.1 600) h0).trans (eqv20)
        have hX := hX.trans (mX.of hf9.1)
        refine W.eq (g2 := F0 m 56 ls []) rfl ?_
        have hrd := hrd.fe hf9
        have h4a := hf9.2.2.2.2 401 (by decide)
        have hkn : (k9 : Int) = kc + 2 + (mI Sv21 401 qv1 ).toInt ∧ (n9 : Int) = ns + 62 + 17 * (mI Sv21 401 qv1 ).toInt := by rw [h4a]; exact hkn
        refine lv_aload_n hx hb dX6_readPage_56 rfl (lv_at hl 0 rfl) ?_
        refine r_get (ci := 6) (k := 0) (v := .ref qv20) C hM kh0 f_X6_33 (congrArg va_rf (vv26)) dX6_readPage_57 ?_
        refine r_getN (ci := 10) (k := 2) (v := .int (mI Sv21 1002 qv20)) C hM kqv20 f_X6_46 rfl dX6_readPage_60 ?_
        refine lv_topi (fun xv27 exv27 => ?_)
        refine lv_if_ne (tgt := 83) hx hb dX6_readPage_63 (by decide) (fun cv28 => ?_) (fun cv28 => ?_)
        · have tcv28 := eqF cv28
          refine lv_aload_n hx hb dX6_readPage_83 rfl (lv_at hl 0 rfl) ?_
          refine lv_aload_n hx hb dX6_readPage_84 rfl (lv_at hl 1 rfl) ?_
          refine r_V (As := [.ref qv1]) (rest := []) (ci := 6) C hM (c_X6_takeToken l D H0 Sv21 k9 n9 h0 qv1 hI (by omega) kh0 kqv1 hrd) i_X6_takeToken m_X6_49 kh0 rfl rfl rfl hl.1 rfl (Nat.le_of_ble_eq_true rfl) ⟨by decide, by decide⟩ ⟨by decide, by decide⟩ dX6_readPage_85 (fun xv32 Sv29 kv30 nv31 H locs pv33 hM => ?_)
          obtain ⟨hx9, hI, hrd, hcn9, hxv32⟩ := pv33
          have kh0 : mK Sv29 h0 = 7 := (hx9).k kh0
          have kqv1 : mK Sv29 qv1 = 5 := (hx9).k kqv1
          have hX := hX.trans hx9
          refine W.eq (g2 := F0 m 88 ls [.int xv32]) rfl ?_
          have hc9 := NI.f401 hI.2 kqv1 
          refine r_tight (k := 62) (n := 1082) hM hM0 (by omega) (by omega) ?_
          have hI : CI x0 (u + 61 * (j.toInt.toNat + 1)) tl rho Sv29 := CI.ccLe hI (by omega)
          refine lv_if_ne (tgt := 94) hx hb dX6_readPage_88 (by decide) (fun cv34 => ?_) (fun cv34 => ?_)
          · have tcv34 := eqF cv34
            obtain ⟨xv35, exv35⟩ : ∃ y : Int32, y = j + 1 := ⟨_, rfl⟩
            try (have txv35 := addI (a := j) (b := 1) (by omega) (by omega); rw [← exv35] at txv35)
            refine lv_iinc (v := xv35) (lv' := [(2, .int xv35), (0, .ref h0), (1, .ref qv1)]) hx hb dX6_readPage_94 hl (k := 2) rfl (by rw [exv35]; rfl) (by decide) rfl (fun ls hl => ?_)
            refine lv_goto (tgt := 42) hx hb dX6_readPage_97 (by decide) ?_
            have hI : CI x0 (u + 61 * xv35.toInt.toNat) tl rho Sv29 := CI.ccLe hI (by omega)
            exact ih42 xv35 Sv29 _ _ _ _ _ (hX) (hI) (hrd) (by omega) (by omega) (kqv1) (kh0) (by omega) (lv_sub hl [1, 2, 0] rfl) hM
          · have tcv34 := eqT cv34
            refine lv_goto (tgt := 100) hx hb dX6_readPage_91 (by decide) ?_
            refine lv_aload_n hx hb dX6_readPage_100 rfl (lv_at hl 0 rfl) ?_
            refine lv_aload_n hx hb dX6_readPage_101 rfl (lv_at hl 0 rfl) ?_
            obtain ⟨qv36, eqv36, kqv36, nqv36⟩ := TI.nn hI.1 (ci := 6) (k := 0) kh0
            refine r_get (ci := 6) (k := 0) (v := .ref qv36) C hM kh0 f_X6_33 (congrArg va_rf eqv36) dX6_readPage_102 ?_
            refine r_getN (ci := 10) (k := 2) (v := .int (mI Sv29 1002 qv36)) C hM kqv36 f_X6_46 rfl dX6_readPage_105 ?_
            refine lv_topi (fun xv37 exv37 => ?_)
            refine lv_bipush (v := 7) hx hb dX6_readPage_108 (by decide) ?_
            refine lv_icmp_ne (tgt := 117) hx hb dX6_readPage_110 (by decide) (fun cv38 => ?_) (fun cv38 => ?_)
            · have tcv38 := eqF cv38
              refine lv_iconst (v := 2) hx hb dX6_readPage_117 (by decide) ?_
              refine r_put C hM kh0 f_X6_11 (fun r h => by cases h; rfl) rfl rfl (mPut.I (ci := 6) (k := 1) rfl) dX6_readPage_118 (fun H locs hM => ?_)
              have hM : mH D H0 (pI Sv29 601 h0 2) kv30 nv31 H locs := hM
              have hI := hI.fe (fEq.I (S := Sv29) (f := 601) (a := h0) (v := 2) (by decide))
              refine lv_aload_n hx hb dX6_readPage_121 rfl (lv_at hl 0 rfl) ?_
              refine lv_aload_n hx hb dX6_readPage_122 rfl (lv_at hl 0 rfl) ?_
              refine r_get (ci := 6) (k := 0) (v := .ref qv36) C hM kh0 f_X6_33 (congrArg va_rf (eqv36)) dX6_readPage_123 ?_
              refine r_getN (ci := 10) (k := 3) (v := .int (mI (pI Sv29 601 h0 2) 1003 qv36)) C hM kqv36 f_X6_53 rfl dX6_readPage_126 ?_
              refine lv_topi (fun xv39 exv39 => ?_)
              refine r_put C hM kh0 f_X6_15 (fun r h => by cases h; rfl) rfl rfl (mPut.I (ci := 6) (k := 2) rfl) dX6_readPage_129 (fun H locs hM => ?_)
              have hM : mH D H0 (pI (pI Sv29 601 h0 2) 602 h0 xv39) kv30 nv31 H locs := hM
              have hI := hI.fe (fEq.I (S := (pI Sv29 601 h0 2)) (f := 602) (a := h0) (v := xv39) (by decide))
              refine lv_null hx hb dX6_readPage_132 ?_
              refine W.widen (k := 63) (n := 1099) (by first | decide | omega) (by first | decide | omega) ?_
              exact r_retR (v := none) C hr hlk hM (⟨by omega, by omega, hX, CI.ccLe hI (by omega), fun z h => by cases h⟩) dX6_readPage_133
            · have tcv38 := eqT cv38
              refine lv_iconst (v := 1) hx hb dX6_readPage_113 (by decide) ?_
              refine lv_goto (tgt := 118) hx hb dX6_readPage_114 (by decide) ?_
              refine r_put C hM kh0 f_X6_11 (fun r h => by cases h; rfl) rfl rfl (mPut.I (ci := 6) (k := 1) rfl) dX6_readPage_118 (fun H locs hM => ?_)
              have hM : mH D H0 (pI Sv29 601 h0 1) kv30 nv31 H locs := hM
              have hI := hI.fe (fEq.I (S := Sv29) (f := 601) (a := h0) (v := 1) (by decide))
              refine lv_aload_n hx hb dX6_readPage_121 rfl (lv_at hl 0 rfl) ?_
              refine lv_aload_n hx hb dX6_readPage_122 rfl (lv_at hl 0 rfl) ?_
              refine r_get (ci := 6) (k := 0) (v := .ref qv36) C hM kh0 f_X6_33 (congrArg va_rf (eqv36)) dX6_readPage_123 ?_
              refine r_getN (ci := 10) (k := 3) (v := .int (mI (pI Sv29 601 h0 1) 1003 qv36)) C hM kqv36 f_X6_53 rfl dX6_readPage_126 ?_
              refine lv_topi (fun xv40 exv40 => ?_)
              refine r_put C hM kh0 f_X6_15 (fun r h => by cases h; rfl) rfl rfl (mPut.I (ci := 6) (k := 2) rfl) dX6_readPage_129 (fun H locs hM => ?_)
              have hM : mH D H0 (pI (pI Sv29 601 h0 1) 602 h0 xv40) kv30 nv31 H locs := hM
              have hI := hI.fe (fEq.I (S := (pI Sv29 601 h0 1)) (f := 602) (a := h0) (v := xv40) (by decide))
              refine lv_null hx hb dX6_readPage_132 ?_
              refine W.widen (k := 63) (n := 1099) (by first | decide | omega) (by first | decide | omega) ?_
              exact r_retR (v := none) C hr hlk hM (⟨by omega, by omega, hX, CI.ccLe hI (by omega), fun z h => by cases h⟩) dX6_readPage_133
        · have tcv28 := eqT cv28
          refine lv_aload_n hx hb dX6_readPage_66 rfl (lv_at hl 0 rfl) ?_
          refine r_get (ci := 6) (k := 3) (v := .int (mI Sv21 603 h0)) C hM kh0 f_X6_18 rfl dX6_readPage_67 ?_
          refine lv_topi (fun xv41 exv41 => ?_)
          refine lv_iconst (v := 2) hx hb dX6_readPage_70 (by decide) ?_
          refine lv_icmp_lt (tgt := 83) hx hb dX6_readPage_71 (by decide) (fun cv42 => ?_) (fun cv42 => ?_)
          · have tcv42 := ltT cv42
            refine lv_aload_n hx hb dX6_readPage_83 rfl (lv_at hl 0 rfl) ?_
            refine lv_aload_n hx hb dX6_readPage_84 rfl (lv_at hl 1 rfl) ?_
            refine r_V (As := [.ref qv1]) (rest := []) (ci := 6) C hM (c_X6_takeToken l D H0 Sv21 k9 n9 h0 qv1 hI (by omega) kh0 kqv1 hrd) i_X6_takeToken m_X6_49 kh0 rfl rfl rfl hl.1 rfl (Nat.le_of_ble_eq_true rfl) ⟨by decide, by decide⟩ ⟨by decide, by decide⟩ dX6_readPage_85 (fun xv46 Sv43 kv44 nv45 H locs pv47 hM => ?_)
            obtain ⟨hx9, hI, hrd, hcn9, hxv46⟩ := pv47
            have kh0 : mK Sv43 h0 = 7 := (hx9).k kh0
            have kqv1 : mK Sv43 qv1 = 5 := (hx9).k kqv1
            have hX := hX.trans hx9
            refine W.eq (g2 := F0 m 88 ls [.int xv46]) rfl ?_
            have hc9 := NI.f401 hI.2 kqv1 
            refine r_tight (k := 62) (n := 1082) hM hM0 (by omega) (by omega) ?_
            have hI : CI x0 (u + 61 * (j.toInt.toNat + 1)) tl rho Sv43 := CI.ccLe hI (by omega)
            refine lv_if_ne (tgt := 94) hx hb dX6_readPage_88 (by decide) (fun cv48 => ?_) (fun cv48 => ?_)
            · have tcv48 := eqF cv48
              obtain ⟨xv49, exv49⟩ : ∃ y : Int32, y = j + 1 := ⟨_, rfl⟩
              try (have txv49 := addI (a := j) (b := 1) (by omega) (by omega); rw [← exv49] at txv49)
              refine lv_iinc (v := xv49) (lv' := [(2, .int xv49), (0, .ref h0), (1, .ref qv1)]) hx hb dX6_readPage_94 hl (k := 2) rfl (by rw [exv49]; rfl) (by decide) rfl (fun ls hl => ?_)
              refine lv_goto (tgt := 42) hx hb dX6_readPage_97 (by decide) ?_
              have hI : CI x0 (u + 61 * xv49.toInt.toNat) tl rho Sv43 := CI.ccLe hI (by omega)
              exact ih42 xv49 Sv43 _ _ _ _ _ (hX) (hI) (hrd) (by omega) (by omega) (kqv1) (kh0) (by omega) (lv_sub hl [1, 2, 0] rfl) hM
            · have tcv48 := eqT cv48
              refine lv_goto (tgt := 100) hx hb dX6_readPage_91 (by decide) ?_
              refine lv_aload_n hx hb dX6_readPage_100 rfl (lv_at hl 0 rfl) ?_
              refine lv_aload_n hx hb dX6_readPage_101 rfl (lv_at hl 0 rfl) ?_
              obtain ⟨qv50, eqv50, kqv50, nqv50⟩ := TI.nn hI.1 (ci := 6) (k := 0) kh0
              refine r_get (ci := 6) (k := 0) (v := .ref qv50) C hM kh0 f_X6_33 (congrArg va_rf eqv50) dX6_readPage_102 ?_
              refine r_getN (ci := 10) (k := 2) (v := .int (mI Sv43 1002 qv50)) C hM kqv50 f_X6_46 rfl dX6_readPage_105 ?_
              refine lv_topi (fun xv51 exv51 => ?_)
              refine lv_bipush (v := 7) hx hb dX6_readPage_108 (by decide) ?_
              refine lv_icmp_ne (tgt := 117) hx hb dX6_readPage_110 (by decide) (fun cv52 => ?_) (fun cv52 => ?_)
              · have tcv52 := eqF cv52
                refine lv_iconst (v := 2) hx hb dX6_readPage_117 (by decide) ?_
                refine r_put C hM kh0 f_X6_11 (fun r h => by cases h; rfl) rfl rfl (mPut.I (ci := 6) (k := 1) rfl) dX6_readPage_118 (fun H locs hM => ?_)
                have hM : mH D H0 (pI Sv43 601 h0 2) kv44 nv45 H locs := hM
                have hI := hI.fe (fEq.I (S := Sv43) (f := 601) (a := h0) (v := 2) (by decide))
                refine lv_aload_n hx hb dX6_readPage_121 rfl (lv_at hl 0 rfl) ?_
                refine lv_aload_n hx hb dX6_readPage_122 rfl (lv_at hl 0 rfl) ?_
                refine r_get (ci := 6) (k := 0) (v := .ref qv50) C hM kh0 f_X6_33 (congrArg va_rf (eqv50)) dX6_readPage_123 ?_
                refine r_getN (ci := 10) (k := 3) (v := .int (mI (pI Sv43 601 h0 2) 1003 qv50)) C hM kqv50 f_X6_53 rfl dX6_readPage_126 ?_
                refine lv_topi (fun xv53 exv53 => ?_)
                refine r_put C hM kh0 f_X6_15 (fun r h => by cases h; rfl) rfl rfl (mPut.I (ci := 6) (k := 2) rfl) dX6_readPage_129 (fun H locs hM => ?_)
                have hM : mH D H0 (pI (pI Sv43 601 h0 2) 602 h0 xv53) kv44 nv45 H locs := hM
                have hI := hI.fe (fEq.I (S := (pI Sv43 601 h0 2)) (f := 602) (a := h0) (v := xv53) (by decide))
                refine lv_null hx hb dX6_readPage_132 ?_
                refine W.widen (k := 63) (n := 1099) (by first | decide | omega) (by first | decide | omega) ?_
                exact r_retR (v := none) C hr hlk hM (⟨by omega, by omega, hX, CI.ccLe hI (by omega), fun z h => by cases h⟩) dX6_readPage_133
              · have tcv52 := eqT cv52
                refine lv_iconst (v := 1) hx hb dX6_readPage_113 (by decide) ?_
                refine lv_goto (tgt := 118) hx hb dX6_readPage_114 (by decide) ?_
                refine r_put C hM kh0 f_X6_11 (fun r h => by cases h; rfl) rfl rfl (mPut.I (ci := 6) (k := 1) rfl) dX6_readPage_118 (fun H locs hM => ?_)
                have hM : mH D H0 (pI Sv43 601 h0 1) kv44 nv45 H locs := hM
                have hI := hI.fe (fEq.I (S := Sv43) (f := 601) (a := h0) (v := 1) (by decide))
                refine lv_aload_n hx hb dX6_readPage_121 rfl (lv_at hl 0 rfl) ?_
                refine lv_aload_n hx hb dX6_readPage_122 rfl (lv_at hl 0 rfl) ?_
                refine r_get (ci := 6) (k := 0) (v := .ref qv50) C hM kh0 f_X6_33 (congrArg va_rf (eqv50)) dX6_readPage_123 ?_
                refine r_getN (ci := 10) (k := 3) (v := .int (mI (pI Sv43 601 h0 1) 1003 qv50)) C hM kqv50 f_X6_53 rfl dX6_readPage_126 ?_
                refine lv_topi (fun xv54 exv54 => ?_)
                refine r_put C hM kh0 f_X6_15 (fun r h => by cases h; rfl) rfl rfl (mPut.I (ci := 6) (k := 2) rfl) dX6_readPage_129 (fun H locs hM => ?_)
                have hM : mH D H0 (pI (pI Sv43 601 h0 1) 602 h0 xv54) kv44 nv45 H locs := hM
                have hI := hI.fe (fEq.I (S := (pI Sv43 601 h0 1)) (f := 602) (a := h0) (v := xv54) (by decide))
                refine lv_null hx hb dX6_readPage_132 ?_
                refine W.widen (k := 63) (n := 1099) (by first | decide | omega) (by first | decide | omega) ?_
                exact r_retR (v := none) C hr hlk hM (⟨by omega, by omega, hX, CI.ccLe hI (by omega), fun z h => by cases h⟩) dX6_readPage_133
          · have tcv42 := ltF cv42
            refine lv_aload_n hx hb dX6_readPage_74 rfl (lv_at hl 0 rfl) ?_
            refine r_get (ci := 6) (k := 4) C hM kh0 f_X6_21 rfl dX6_readPage_75 ?_
            obtain ⟨rv55, erv55, krv55⟩ : ∃ r : Option Nat, mR Sv21 604 h0 = r ∧ ∀ q, r = some q → mK Sv21 q = 6 := ⟨_, rfl, TI.opt hI.1 (ci := 6) (k := 4) kh0⟩
            refine W.eq (g2 := F0 m 78 ls [va_rf rv55]) (by rw [← erv55]; rfl) ?_
            cases rv55 with
            | none =>
              refine lv_ifnonnullN hx hb dX6_readPage_78 ?_
              refine lv_aload_n hx hb dX6_readPage_81 rfl (lv_at hl 1 rfl) ?_
              refine W.widen (k := 63) (n := 1099) (by first | decide | omega) (by first | decide | omega) ?_
              exact r_retR (v := (some qv1)) C hr hlk hM (⟨by omega, by omega, hX, CI.ccLe hI (by omega), fun z h => by cases h; exact kqv1⟩) dX6_readPage_82
            | some qv56 =>
              have kqv56 : mK Sv21 qv56 = 6 := krv55 qv56 rfl
              refine lv_ifnonnull (tgt := 83) hx hb dX6_readPage_78 (by decide) ?_
              refine lv_aload_n hx hb dX6_readPage_83 rfl (lv_at hl 0 rfl) ?_
              refine lv_aload_n hx hb dX6_readPage_84 rfl (lv_at hl 1 rfl) ?_
              refine r_V (As := [.ref qv1]) (rest := []) (ci := 6) C hM (c_X6_takeToken l D H0 Sv21 k9 n9 h0 qv1 hI (by omega) kh0 kqv1 hrd) i_X6_takeToken m_X6_49 kh0 rfl rfl rfl hl.1 rfl (Nat.le_of_ble_eq_true rfl) ⟨by decide, by decide⟩ ⟨by decide, by decide⟩ dX6_readPage_85 (fun xv60 Sv57 kv58 nv59 H locs pv61 hM => ?_)
              obtain ⟨hx9, hI, hrd, hcn9, hxv60⟩ := pv61
              have kh0 : mK Sv57 h0 = 7 := (hx9).k kh0
              have kqv1 : mK Sv57 qv1 = 5 := (hx9).k kqv1
              have hX := hX.trans hx9
              refine W.eq (g2 := F0 m 88 ls [.int xv60]) rfl ?_
              have hc9 := NI.f401 hI.2 kqv1 
              refine r_tight (k := 62) (n := 1082) hM hM0 (by omega) (by omega) ?_
              have hI : CI x0 (u + 61 * (j.toInt.toNat + 1)) tl rho Sv57 := CI.ccLe hI (by omega)
              refine lv_if_ne (tgt := 94) hx hb dX6_readPage_88 (by decide) (fun cv62 => ?_) (fun cv62 => ?_)
              · have tcv62 := eqF cv62
                obtain ⟨xv63, exv63⟩ : ∃ y : Int32, y = j + 1 := ⟨_, rfl⟩
                try (have txv63 := addI (a := j) (b := 1) (by omega) (by omega); rw [← exv63] at txv63)
                refine lv_iinc (v := xv63) (lv' := [(2, .int xv63), (0, .ref h0), (1, .ref qv1)]) hx hb dX6_readPage_94 hl (k := 2) rfl (by rw [exv63]; rfl) (by decide) rfl (fun ls hl => ?_)
                refine lv_goto (tgt := 42) hx hb dX6_readPage_97 (by decide) ?_
                have hI : CI x0 (u + 61 * xv63.toInt.toNat) tl rho Sv57 := CI.ccLe hI (by omega)
                exact ih42 xv63 Sv57 _ _ _ _ _ (hX) (hI) (hrd) (by omega) (by omega) (kqv1) (kh0) (by omega) (lv_sub hl [1, 2, 0] rfl) hM
              · have tcv62 := eqT cv62
                refine lv_goto (tgt := 100) hx hb dX6_readPage_91 (by decide) ?_
                refine lv_aload_n hx hb dX6_readPage_100 rfl (lv_at hl 0 rfl) ?_
                refine lv_aload_n hx hb dX6_readPage_101 rfl (lv_at hl 0 rfl) ?_
                obtain ⟨qv64, eqv64, kqv64, nqv64⟩ := TI.nn hI.1 (ci := 6) (k := 0) kh0
                refine r_get (ci := 6) (k := 0) (v := .ref qv64) C hM kh0 f_X6_33 (congrArg va_rf eqv64) dX6_readPage_102 ?_
                refine r_getN (ci := 10) (k := 2) (v := .int (mI Sv57 1002 qv64)) C hM kqv64 f_X6_46 rfl dX6_readPage_105 ?_
                refine lv_topi (fun xv65 exv65 => ?_)
                refine lv_bipush (v := 7) hx hb dX6_readPage_108 (by decide) ?_
                refine lv_icmp_ne (tgt := 117) hx hb dX6_readPage_110 (by decide) (fun cv66 => ?_) (fun cv66 => ?_)
                · have tcv66 := eqF cv66
                  refine lv_iconst (v := 2) hx hb dX6_readPage_117 (by decide) ?_
                  refine r_put C hM kh0 f_X6_11 (fun r h => by cases h; rfl) rfl rfl (mPut.I (ci := 6) (k := 1) rfl) dX6_readPage_118 (fun H locs hM => ?_)
                  have hM : mH D H0 (pI Sv57 601 h0 2) kv58 nv59 H locs := hM
                  have hI := hI.fe (fEq.I (S := Sv57) (f := 601) (a := h0) (v := 2) (by decide))
                  refine lv_aload_n hx hb dX6_readPage_121 rfl (lv_at hl 0 rfl) ?_
                  refine lv_aload_n hx hb dX6_readPage_122 rfl (lv_at hl 0 rfl) ?_
                  refine r_get (ci := 6) (k := 0) (v := .ref qv64) C hM kh0 f_X6_33 (congrArg va_rf (eqv64)) dX6_readPage_123 ?_
                  refine r_getN (ci := 10) (k := 3) (v := .int (mI (pI Sv57 601 h0 2) 1003 qv64)) C hM kqv64 f_X6_53 rfl dX6_readPage_126 ?_
                  refine lv_topi (fun xv67 exv67 => ?_)
                  refine r_put C hM kh0 f_X6_15 (fun r h => by cases h; rfl) rfl rfl (mPut.I (ci := 6) (k := 2) rfl) dX6_readPage_129 (fun H locs hM => ?_)
                  have hM : mH D H0 (pI (pI Sv57 601 h0 2) 602 h0 xv67) kv58 nv59 H locs := hM
                  have hI := hI.fe (fEq.I (S := (pI Sv57 601 h0 2)) (f := 602) (a := h0) (v := xv67) (by decide))
                  refine lv_null hx hb dX6_readPage_132 ?_
                  refine W.widen (k := 63) (n := 1099) (by first | decide | omega) (by first | decide | omega) ?_
                  exact r_retR (v := none) C hr hlk hM (⟨by omega, by omega, hX, CI.ccLe hI (by omega), fun z h => by cases h⟩) dX6_readPage_133
                · have tcv66 := eqT cv66
                  refine lv_iconst (v := 1) hx hb dX6_readPage_113 (by decide) ?_
                  refine lv_goto (tgt := 118) hx hb dX6_readPage_114 (by decide) ?_
                  refine r_put C hM kh0 f_X6_11 (fun r h => by cases h; rfl) rfl rfl (mPut.I (ci := 6) (k := 1) rfl) dX6_readPage_118 (fun H locs hM => ?_)
                  have hM : mH D H0 (pI Sv57 601 h0 1) kv58 nv59 H locs := hM
                  have hI := hI.fe (fEq.I (S := Sv57) (f := 601) (a := h0) (v := 1) (by decide))
                  refine lv_aload_n hx hb dX6_readPage_121 rfl (lv_at hl 0 rfl) ?_
                  refine lv_aload_n hx hb dX6_readPage_122 rfl (lv_at hl 0 rfl) ?_
                  refine r_get (ci := 6) (k := 0) (v := .ref qv64) C hM kh0 f_X6_33 (congrArg va_rf (eqv64)) dX6_readPage_123 ?_
                  refine r_getN (ci := 10) (k := 3) (v := .int (mI (pI Sv57 601 h0 1) 1003 qv64)) C hM kqv64 f_X6_53 rfl dX6_readPage_126 ?_
                  refine lv_topi (fun xv68 exv68 => ?_)
                  refine r_put C hM kh0 f_X6_15 (fun r h => by cases h; rfl) rfl rfl (mPut.I (ci := 6) (k := 2) rfl) dX6_readPage_129 (fun H locs hM => ?_)
                  have hM : mH D H0 (pI (pI Sv57 601 h0 1) 602 h0 xv68) kv58 nv59 H locs := hM
                  have hI := hI.fe (fEq.I (S := (pI Sv57 601 h0 1)) (f := 602) (a := h0) (v := xv68) (by decide))
                  refine lv_null hx hb dX6_readPage_132 ?_
                  refine W.widen (k := 63) (n := 1099) (by first | decide | omega) (by first | decide | omega) ?_
                  exact r_retR (v := none) C hr hlk hM (⟨by omega, by omega, hX, CI.ccLe hI (by omega), fun z h => by cases h⟩) dX6_readPage_133
  exact loop42 (((1601 - (0 : Int32).toInt).toNat) + 1) 0 (pR (pR (pI (pI (pI Sv8 601 h0 0) 602 h0 (-1)) 603 h0 0) 604 h0 none) 605 h0 none) _ _ _ _ _ (hX) (hI) (hrd) (by omega) (by omega) (kqv1) (kh0) (by omega) (lv_sub hl [2, 1, 0] rfl) hM
