set_option maxHeartbeats 4000000 in
set_option maxRecDepth 100000 in
theorem c_X9_byteAt (l : Launch) (D : gD) (H0 : gB) (S : Mem) (kc ns : Nat) (h0 : Nat) (i0 : Int32) {u : Nat} {tl : Int} {rho : Nat × Nat} (hI : CI x0 u tl rho S) (kh0 : mK S h0 = 10) : Met l yX9_byteAt (wsU yX9_byteAt cX9_byteAt 2 (some .int)) ({ frames := 0, cells := 0, slots := 0, locals := 0 } : Room) (mP D H0 S kc ns [.ref h0, .int i0]) (mQ D H0 gI (fun r S1 k1 n1 => S = S1 ∧ kc = k1 ∧ ns = n1 ∧ True)) 0 0 (mF H0) := by
  refine r_met (own := RX9) (by decide +kernel) rfl (Nat.le_of_ble_eq_true rfl) ?_
  intro p e s m args below meth c C hr hlk hnm H ls hl hM
  obtain ⟨hx, hb, hml, hown, hts, -, -⟩ := id C
  have hl : lv_has ls 2 [(0, .ref h0), (1, .int i0)] := hl
  have t_m1 : (-1 : Int32).toInt = -1 := by decide
  have t_0 : (0 : Int32).toInt = 0 := by decide
  have t_255 : (255 : Int32).toInt = 255 := by decide
  refine lv_iload_n hx hb dX9_byteAt_0 rfl (lv_at hl 1 rfl) ?_
  refine lv_if_lt (tgt := 12) hx hb dX9_byteAt_1 (by decide) (fun cv1 => ?_) (fun cv1 => ?_)
  · have tcv1 := ltT cv1
    refine lv_iconst (v := -1) hx hb dX9_byteAt_12 (by decide) ?_
    refine lv_goto (tgt := 26) hx hb dX9_byteAt_13 (by decide) ?_
    exact r_retI C hr hlk hM (⟨rfl, rfl, rfl, trivial⟩) dX9_byteAt_26
  · have tcv1 := ltF cv1
    refine lv_iload_n hx hb dX9_byteAt_4 rfl (lv_at hl 1 rfl) ?_
    refine lv_aload_n hx hb dX9_byteAt_5 rfl (lv_at hl 0 rfl) ?_
    refine r_get (ci := 9) (k := 1) (v := .int (mI S 901 h0)) C hM kh0 f_X9_15 rfl dX9_byteAt_6 ?_
    refine lv_topi (fun xv2 exv2 => ?_)
    have fxv2 := NI.f901 hI.2 kh0
    rw [← exv2] at fxv2
    refine lv_icmp_lt (tgt := 16) hx hb dX9_byteAt_9 (by decide) (fun cv3 => ?_) (fun cv3 => ?_)
    · have tcv3 := ltT cv3
      refine lv_aload_n hx hb dX9_byteAt_16 rfl (lv_at hl 0 rfl) ?_
      obtain ⟨qv4, eqv4, kqv4, nqv4⟩ := TI.nn hI.1 (ci := 9) (k := 0) kh0
      refine r_get (ci := 9) (k := 0) (v := .ref qv4) C hM kh0 f_X9_9 (congrArg va_rf eqv4) dX9_byteAt_17 ?_
      refine lv_iload_n hx hb dX9_byteAt_20 rfl (lv_at hl 1 rfl) ?_
      refine r_bald C hM kqv4 (inI (by omega) (by rw [nqv4 (by decide)]; show _ < (1600 : Int); omega)) dX9_byteAt_21 ?_
      refine lv_topi (fun xv5 exv5 => ?_)
      refine lv_sipush (v := 255) hx hb dX9_byteAt_22 (by decide) ?_
      refine lv_iand hx hb dX9_byteAt_25 ?_
      refine lv_topi (fun xv6 exv6 => ?_)
      exact r_retI C hr hlk hM (⟨rfl, rfl, rfl, trivial⟩) dX9_byteAt_26
    · have tcv3 := ltF cv3
      refine lv_iconst (v := -1) hx hb dX9_byteAt_12 (by decide) ?_
      refine lv_goto (tgt := 26) hx hb dX9_byteAt_13 (by decide) ?_
      exact r_retI C hr hlk hM (⟨rfl, rfl, rfl, trivial⟩) dX9_byteAt_26
set_option maxHeartbeats 4000000 in
set_option maxRecDepth 100000 in
theorem c_X10_isBlank (l : Launch) (D : gD) (H0 : gB) (S : Mem) (kc ns : Nat) (i0 : Int32) : Met l yX10_isBlank (wsU yX10_isBlank cX10_isBlank 1 (some .boolean)) ({ frames := 0, cells := 0, slots := 0, locals := 0 } : Room) (mP D H0 S kc ns [.int i0]) (mQ D H0 gI (fun r S1 k1 n1 => S = S1 ∧ kc = k1 ∧ ns = n1 ∧ (r = 0 ∨ r = 1))) 0 0 (mF H0) := by
  refine r_met (own := RX10) (by decide +kernel) rfl (Nat.le_of_ble_eq_true rfl) ?_
  intro p e s m args below meth c C hr hlk hnm H ls hl hM
  obtain ⟨hx, hb, hml, hown, hts, -, -⟩ := id C
  have hl : lv_has ls 1 [(0, .int i0)] := hl
  have t_0 : (0 : Int32).toInt = 0 := by decide
  have t_1 : (1 : Int32).toInt = 1 := by decide
  have t_10 : (10 : Int32).toInt = 10 := by decide
  have t_32 : (32 : Int32).toInt = 32 := by decide
  refine lv_iload_n hx hb dX10_isBlank_0 rfl (lv_at hl 0 rfl) ?_
  refine lv_bipush (v := 32) hx hb dX10_isBlank_1 (by decide) ?_
  refine lv_icmp_eq (tgt := 12) hx hb dX10_isBlank_3 (by decide) (fun cv1 => ?_) (fun cv1 => ?_)
  · have tcv1 := eqT cv1
    refine lv_iconst (v := 1) hx hb dX10_isBlank_12 (by decide) ?_
    refine lv_goto (tgt := 17) hx hb dX10_isBlank_13 (by decide) ?_
    exact r_retZ C hr hlk rfl hM (⟨rfl, rfl, rfl, by decide⟩) dX10_isBlank_17
  · have tcv1 := eqF cv1
    refine lv_iload_n hx hb dX10_isBlank_6 rfl (lv_at hl 0 rfl) ?_
    refine lv_bipush (v := 10) hx hb dX10_isBlank_7 (by decide) ?_
    refine lv_icmp_ne (tgt := 16) hx hb dX10_isBlank_9 (by decide) (fun cv2 => ?_) (fun cv2 => ?_)
    · have tcv2 := eqF cv2
      refine lv_iconst (v := 0) hx hb dX10_isBlank_16 (by decide) ?_
      exact r_retZ C hr hlk rfl hM (⟨rfl, rfl, rfl, by decide⟩) dX10_isBlank_17
    · have tcv2 := eqT cv2
      refine lv_iconst (v := 1) hx hb dX10_isBlank_12 (by decide) ?_
      refine lv_goto (tgt := 17) hx hb dX10_isBlank_13 (by decide) ?_
      exact r_retZ C hr hlk rfl hM (⟨rfl, rfl, rfl, by decide⟩) dX10_isBlank_17
set_option maxHeartbeats 4000000 in
set_option maxRecDepth 100000 in
theorem c_X10_isLetter (l : Launch) (D : gD) (H0 : gB) (S : Mem) (kc ns : Nat) (i0 : Int32) : Met l yX10_isLetter (wsU yX10_isLetter cX10_isLetter 1 (some .boolean)) ({ frames := 0, cells := 0, slots := 0, locals := 0 } : Room) (mP D H0 S kc ns [.int i0]) (mQ D H0 gI (fun r S1 k1 n1 => S = S1 ∧ kc = k1 ∧ ns = n1 ∧ (r = 0 ∨ r = 1))) 0 0 (mF H0) := by
  refine r_met (own := RX10) (by decide +kernel) rfl (Nat.le_of_ble_eq_true rfl) ?_
  intro p e s m args below meth c C hr hlk hnm H ls hl hM
  obtain ⟨hx, hb, hml, hown, hts, -, -⟩ := id C
  have hl : lv_has ls 1 [(0, .int i0)] := hl
  have t_0 : (0 : Int32).toInt = 0 := by decide
  have t_1 : (1 : Int32).toInt = 1 := by decide
  have t_97 : (97 : Int32).toInt = 97 := by decide
  have t_122 : (122 : Int32).toInt = 122 := by decide
  refine lv_iload_n hx hb dX10_isLetter_0 rfl (lv_at hl 0 rfl) ?_
  refine lv_bipush (v := 97) hx hb dX10_isLetter_1 (by decide) ?_
  refine lv_icmp_lt (tgt := 16) hx hb dX10_isLetter_3 (by decide) (fun cv1 => ?_) (fun cv1 => ?_)
  · have tcv1 := ltT cv1
    refine lv_iconst (v := 0) hx hb dX10_isLetter_16 (by decide) ?_
    exact r_retZ C hr hlk rfl hM (⟨rfl, rfl, rfl, by decide⟩) dX10_isLetter_17
  · have tcv1 := ltF cv1
    refine lv_iload_n hx hb dX10_isLetter_6 rfl (lv_at hl 0 rfl) ?_
    refine lv_bipush (v := 122) hx hb dX10_isLetter_7 (by decide) ?_
    refine lv_icmp_gt (tgt := 16) hx hb dX10_isLetter_9 (by decide) (fun cv2 => ?_) (fun cv2 => ?_)
    · have tcv2 := ltT cv2
      refine lv_iconst (v := 0) hx hb dX10_isLetter_16 (by decide) ?_
      exact r_retZ C hr hlk rfl hM (⟨rfl, rfl, rfl, by decide⟩) dX10_isLetter_17
    · have tcv2 := ltF cv2
      refine lv_iconst (v := 1) hx hb dX10_isLetter_12 (by decide) ?_
      refine lv_goto (tgt := 17) hx hb dX10_isLetter_13 (by decide) ?_
      exact r_retZ C hr hlk rfl hM (⟨rfl, rfl, rfl, by decide⟩) dX10_isLetter_17
set_option maxHeartbeats 4000000 in
set_option maxRecDepth 100000 in
theorem c_X10_isTextByte (l : Launch) (D : gD) (H0 : gB) (S : Mem) (kc ns : Nat) (i0 : Int32) : Met l yX10_isTextByte (wsU yX10_isTextByte cX10_isTextByte 1 (some .boolean)) ({ frames := 0, cells := 0, slots := 0, locals := 0 } : Room) (mP D H0 S kc ns [.int i0]) (mQ D H0 gI (fun r S1 k1 n1 => S = S1 ∧ kc = k1 ∧ ns = n1 ∧ (r = 0 ∨ r = 1))) 0 0 (mF H0) := by
  refine r_met (own := RX10) (by decide +kernel) rfl (Nat.le_of_ble_eq_true rfl) ?_
  intro p e s m args below meth c C hr hlk hnm H ls hl hM
  obtain ⟨hx, hb, hml, hown, hts, -, -⟩ := id C
  have hl : lv_has ls 1 [(0, .int i0)] := hl
  have t_0 : (0 : Int32).toInt = 0 := by decide
  have t_1 : (1 : Int32).toInt = 1 := by decide
  have t_32 : (32 : Int32).toInt = 32 := by decide
  have t_34 : (34 : Int32).toInt = 34 := by decide
  have t_126 : (126 : Int32).toInt = 126 := by decide
  refine lv_iload_n hx hb dX10_isTextByte_0 rfl (lv_at hl 0 rfl) ?_
  refine lv_bipush (v := 32) hx hb dX10_isTextByte_1 (by decide) ?_
  refine lv_icmp_lt (tgt := 22) hx hb dX10_isTextByte_3 (by decide) (fun cv1 => ?_) (fun cv1 => ?_)
  · have tcv1 := ltT cv1
    refine lv_iconst (v := 0) hx hb dX10_isTextByte_22 (by decide) ?_
    exact r_retZ C hr hlk rfl hM (⟨rfl, rfl, rfl, by decide⟩) dX10_isTextByte_23
  · have tcv1 := ltF cv1
    refine lv_iload_n hx hb dX10_isTextByte_6 rfl (lv_at hl 0 rfl) ?_
    refine lv_bipush (v := 126) hx hb dX10_isTextByte_7 (by decide) ?_
    refine lv_icmp_gt (tgt := 22) hx hb dX10_isTextByte_9 (by decide) (fun cv2 => ?_) (fun cv2 => ?_)
    · have tcv2 := ltT cv2
      refine lv_iconst (v := 0) hx hb dX10_isTextByte_22 (by decide) ?_
      exact r_retZ C hr hlk rfl hM (⟨rfl, rfl, rfl, by decide⟩) dX10_isTextByte_23
    · have tcv2 := ltF cv2
      refine lv_iload_n hx hb dX10_isTextByte_12 rfl (lv_at hl 0 rfl) ?_
      refine lv_bipush (v := 34) hx hb dX10_isTextByte_13 (by decide) ?_
      refine lv_icmp_eq (tgt := 22) hx hb dX10_isTextByte_15 (by decide) (fun cv3 => ?_) (fun cv3 => ?_)
      · have tcv3 := eqT cv3
        refine lv_iconst (v := 0) hx hb dX10_isTextByte_22 (by decide) ?_
        exact r_retZ C hr hlk rfl hM (⟨rfl, rfl, rfl, by decide⟩) dX10_isTextByte_23
      · have tcv3 := eqF cv3
        refine lv_iconst (v := 1) hx hb dX10_isTextByte_18 (by decide) ?_
        refine lv_goto (tgt := 23) hx hb dX10_isTextByte_19 (by decide) ?_
        exact r_retZ C hr hlk rfl hM (⟨rfl, rfl, rfl, by decide⟩) dX10_isTextByte_23
set_option maxHeartbeats 4000000 in
set_option maxRecDepth 100000 in
theorem c_X10_signToken (l : Launch) (D : gD) (H0 : gB) (S : Mem) (kc ns : Nat) (i0 : Int32) : Met l yX10_signToken (wsU yX10_signToken cX10_signToken 1 (some .int)) ({ frames := 0, cells := 0, slots := 0, locals := 0 } : Room) (mP D H0 S kc ns [.int i0]) (mQ D H0 gI (fun r S1 k1 n1 => S = S1 ∧ kc = k1 ∧ ns = n1 ∧ True)) 0 0 (mF H0) := by
  refine r_met (own := RX10) (by decide +kernel) rfl (Nat.le_of_ble_eq_true rfl) ?_
  intro p e s m args below meth c C hr hlk hnm H ls hl hM
  obtain ⟨hx, hb, hml, hown, hts, -, -⟩ := id C
  have hl : lv_has ls 1 [(0, .int i0)] := hl
  have t_0 : (0 : Int32).toInt = 0 := by decide
  have t_3 : (3 : Int32).toInt = 3 := by decide
  have t_4 : (4 : Int32).toInt = 4 := by decide
  have t_5 : (5 : Int32).toInt = 5 := by decide
  have t_6 : (6 : Int32).toInt = 6 := by decide
  have t_7 : (7 : Int32).toInt = 7 := by decide
  refine lv_iload_n hx hb dX10_signToken_0 rfl (lv_at hl 0 rfl) ?_
  by_cases hv1_0 : i0.toInt = 33
  · refine lv_tableIn (off := 53) (tgt := 54) hx hb dX10_signToken_1 (by omega) (by omega) (by rw [hv1_0]; rfl) (by decide) ?_
    refine lv_iconst (v := 4) hx hb dX10_signToken_54 (by decide) ?_
    exact r_retI C hr hlk hM (⟨rfl, rfl, rfl, trivial⟩) dX10_signToken_55
  by_cases hv1_1 : i0.toInt = 34
  · refine lv_tableIn (off := 60) (tgt := 61) hx hb dX10_signToken_1 (by omega) (by omega) (by rw [hv1_1]; rfl) (by decide) ?_
    refine lv_bipush (v := 7) hx hb dX10_signToken_61 (by decide) ?_
    exact r_retI C hr hlk hM (⟨rfl, rfl, rfl, trivial⟩) dX10_signToken_63
  by_cases hv1_2 : i0.toInt = 35
  · refine lv_tableIn (off := 51) (tgt := 52) hx hb dX10_signToken_1 (by omega) (by omega) (by rw [hv1_2]; rfl) (by decide) ?_
    refine lv_iconst (v := 3) hx hb dX10_signToken_52 (by decide) ?_
    exact r_retI C hr hlk hM (⟨rfl, rfl, rfl, trivial⟩) dX10_signToken_53
  by_cases hv1_3 : i0.toInt = 36
  · refine lv_tableIn (off := 60) (tgt := 61) hx hb dX10_signToken_1 (by omega) (by omega) (by rw [hv1_3]; rfl) (by decide) ?_
    refine lv_bipush (v := 7) hx hb dX10_signToken_61 (by decide) ?_
    exact r_retI C hr hlk hM (⟨rfl, rfl, rfl, trivial⟩) dX10_signToken_63
  by_cases hv1_4 : i0.toInt = 37
  · refine lv_tableIn (off := 60) (tgt := 61) hx hb dX10_signToken_1 (by omega) (by omega) (by rw [hv1_4]; rfl) (by decide) ?_
    refine lv_bipush (v := 7) hx hb dX10_signToken_61 (by decide) ?_
    exact r_retI C hr hlk hM (⟨rfl, rfl, rfl, trivial⟩) dX10_signToken_63
  by_cases hv1_5 : i0.toInt = 38
  · refine lv_tableIn (off := 60) (tgt := 61) hx hb dX10_signToken_1 (by omega) (by omega) (by rw [hv1_5]; rfl) (by decide) ?_
    refine lv_bipush (v := 7) hx hb dX10_signToken_61 (by decide) ?_
    exact r_retI C hr hlk hM (⟨rfl, rfl, rfl, trivial⟩) dX10_signToken_63
  by_cases hv1_6 : i0.toInt = 39
  · refine lv_tableIn (off := 60) (tgt := 61) hx hb dX10_signToken_1 (by omega) (by omega) (by rw [hv1_6]; rfl) (by decide) ?_
    refine lv_bipush (v := 7) hx hb dX10_signToken_61 (by decide) ?_
    exact r_retI C hr hlk hM (⟨rfl, rfl, rfl, trivial⟩) dX10_signToken_63
  by_cases hv1_7 : i0.toInt = 40
  · refine lv_tableIn (off := 55) (tgt := 56) hx hb dX10_signToken_1 (by omega) (by omega) (by rw [hv1_7]; rfl) (by decide) ?_
    refine lv_iconst (v := 5) hx hb dX10_signToken_56 (by decide) ?_
    exact r_retI C hr hlk hM (⟨rfl, rfl, rfl, trivial⟩) dX10_signToken_57
  by_cases hv1_8 : i0.toInt = 41
  · refine lv_tableIn (off := 57) (tgt := 58) hx hb dX10_signToken_1 (by omega) (by omega) (by rw [hv1_8]; rfl) (by decide) ?_
    refine lv_bipush (v := 6) hx hb dX10_signToken_58 (by decide) ?_
    exact r_retI C hr hlk hM (⟨rfl, rfl, rfl, trivial⟩) dX10_signToken_60
  refine lv_tableOut (tgt := 61) hx hb dX10_signToken_1 (by omega) (by decide) ?_
  refine lv_bipush (v := 7) hx hb dX10_signToken_61 (by decide) ?_
  exact r_retI C hr hlk hM (⟨rfl, rfl, rfl, trivial⟩) dX10_signToken_63
set_option maxHeartbeats 4000000 in
set_option maxRecDepth 100000 in
theorem c_X10_rewind (l : Launch) (D : gD) (H0 : gB) (S : Mem) (kc ns : Nat) (h0 : Nat) {u : Nat} {tl : Int} {rho : Nat × Nat} (hI : CI x0 u tl rho S) (kh0 : mK S h0 = 11) : Met l yX10_rewind (wsU yX10_rewind cX10_rewind 1 none) ({ frames := 0, cells := 0, slots := 0, locals := 0 } : Room) (mP D H0 S kc ns [.ref h0]) (mQ D H0 gV (fun r S1 k1 n1 => kc = k1 ∧ ns = n1 ∧ fEq S S1 ∧ True)) 0 0 (mF H0) := by
  refine r_met (own := RX10) (by decide +kernel) rfl (Nat.le_of_ble_eq_true rfl) ?_
  intro p e s m args below meth c C hr hlk hnm H ls hl hM
  obtain ⟨hx, hb, hml, hown, hts, -, -⟩ := id C
  have hl : lv_has ls 1 [(0, .ref h0)] := hl
  have hI0 := hI
  have hF : fEq S S := fEq.rf
  have t_0 : (0 : Int32).toInt = 0 := by decide
  refine lv_aload_n hx hb dX10_rewind_0 rfl (lv_at hl 0 rfl) ?_
  refine lv_iconst (v := 0) hx hb dX10_rewind_1 (by decide) ?_
  refine r_put C hM kh0 f_X10_7 (fun r h => by cases h; rfl) rfl rfl (mPut.I (ci := 10) (k := 1) rfl) dX10_rewind_2 (fun H locs hM => ?_)
  have hM : mH D H0 (pI S 1001 h0 0) kc ns H locs := hM
  have hI := hI.fe (fEq.I (S := S) (f := 1001) (a := h0) (v := 0) (by decide))
  have hF := hF.trans (fEq.I (S := S) (f := 1001) (a := h0) (v := 0) (by decide))
  exact r_retV C hr hlk hM (⟨rfl, rfl, hF, trivial⟩) dX10_rewind_5
set_option maxHeartbeats 4000000 in
set_option maxRecDepth 100000 in
theorem c_X10_putTextByte (l : Launch) (D : gD) (H0 : gB) (S : Mem) (kc ns : Nat) (h0 : Nat) (i0 : Int32) {u : Nat} {tl : Int} {rho : Nat × Nat} (hI : CI x0 u tl rho S) (kh0 : mK S h0 = 11) : Met l yX10_putTextByte (wsU yX10_putTextByte cX10_putTextByte 2 none) ({ frames := 0, cells := 0, slots := 0, locals := 0 } : Room) (mP D H0 S kc ns [.ref h0, .int i0]) (mQ D H0 gV (fun r S1 k1 n1 => kc = k1 ∧ ns = n1 ∧ fEq S S1 ∧ True)) 0 0 (mF H0) := by
  refine r_met (own := RX10) (by decide +kernel) rfl (Nat.le_of_ble_eq_true rfl) ?_
  intro p e s m args below meth c C hr hlk hnm H ls hl hM
  obtain ⟨hx, hb, hml, hown, hts, -, -⟩ := id C
  have hl : lv_has ls 2 [(0, .ref h0), (1, .int i0)] := hl
  have hI0 := hI
  have hF : fEq S S := fEq.rf
  have t_0 : (0 : Int32).toInt = 0 := by decide
  have t_1 : (1 : Int32).toInt = 1 := by decide
  have t_8 : (8 : Int32).toInt = 8 := by decide
  refine lv_aload_n hx hb dX10_putTextByte_0 rfl (lv_at hl 0 rfl) ?_
  refine r_get (ci := 10) (k := 7) (v := .int (mI S 1007 h0)) C hM kh0 f_X10_29 rfl dX10_putTextByte_1 ?_
  refine lv_topi (fun xv1 exv1 => ?_)
  refine lv_bipush (v := 8) hx hb dX10_putTextByte_4 (by decide) ?_
  refine lv_icmp_ge (tgt := 31) hx hb dX10_putTextByte_6 (by decide) (fun cv2 => ?_) (fun cv2 => ?_)
  · have tcv2 := leT cv2
    refine lv_aload_n hx hb dX10_putTextByte_31 rfl (lv_at hl 0 rfl) ?_
    refine lv_dup hx hb dX10_putTextByte_32 rfl ?_
    refine r_get (ci := 10) (k := 6) (v := .long (mL S 1006 h0)) C hM kh0 f_X10_26 rfl dX10_putTextByte_33 ?_
    refine lv_topl (fun lv3 elv3 => ?_)
    refine lv_iload_n hx hb dX10_putTextByte_36 rfl (lv_at hl 1 rfl) ?_
    refine lv_i2l hx hb dX10_putTextByte_37 rfl ?_
    refine lv_topl (fun lv4 elv4 => ?_)
    refine lv_bipush (v := 8) hx hb dX10_putTextByte_38 (by decide) ?_
    refine lv_aload_n hx hb dX10_putTextByte_40 rfl (lv_at hl 0 rfl) ?_
    refine r_get (ci := 10) (k := 7) (v := .int (mI S 1007 h0)) C hM kh0 f_X10_29 rfl dX10_putTextByte_41 ?_
    refine lv_topi (fun xv5 exv5 => ?_)
    have gxv5 : xv5 = xv1 := exv5.trans (exv1.symm)
    have hxv5 : xv5.toInt = xv1.toInt := by rw [gxv5]
    refine lv_bipush (v := 8) hx hb dX10_putTextByte_44 (by decide) ?_
    refine lv_isub hx hb dX10_putTextByte_46 ?_
    refine lv_topi (fun xv6 exv6 => ?_)
    try (have txv6 := subI (a := xv5) (b := 8) (by omega) (by omega); rw [← exv6] at txv6)
    refine lv_imul hx hb dX10_putTextByte_47 ?_
    refine lv_topi (fun xv7 exv7 => ?_)
    try (have txv7 := mulD (a := xv6) (k := 8) (n := 8) (by decide) (by omega) (by omega); rw [← exv7] at txv7)
    refine lv_lshl hx hb dX10_putTextByte_48 rfl ?_
    refine lv_topl (fun lv8 elv8 => ?_)
    refine lv_lor hx hb dX10_putTextByte_49 ?_
    refine lv_topl (fun lv9 elv9 => ?_)
    refine r_put C hM kh0 f_X10_26 (fun r h => by cases h; rfl) rfl rfl (mPut.L (ci := 10) (k := 6) rfl) dX10_putTextByte_50 (fun H locs hM => ?_)
    have hM : mH D H0 (pL S 1006 h0 lv9) kc ns H locs := hM
    have hI := hI.fe (fEq.L (S := S) (f := 1006) (a := h0) (v := lv9))
    have hF := hF.trans (fEq.L (S := S) (f := 1006) (a := h0) (v := lv9))
    refine lv_aload_n hx hb dX10_putTextByte_53 rfl (lv_at hl 0 rfl) ?_
    refine lv_dup hx hb dX10_putTextByte_54 rfl ?_
    refine r_get (ci := 10) (k := 7) (v := .int (mI (pL S 1006 h0 lv9) 1007 h0)) C hM kh0 f_X10_29 rfl dX10_putTextByte_55 ?_
    refine lv_topi (fun xv10 exv10 => ?_)
    have gxv10 : xv10 = xv1 := exv10.trans (exv1.symm)
    have hxv10 : xv10.toInt = xv1.toInt := by rw [gxv10]
    refine lv_iconst (v := 1) hx hb dX10_putTextByte_58 (by decide) ?_
    refine lv_iadd hx hb dX10_putTextByte_59 ?_
    refine lv_topi (fun xv11 exv11 => ?_)
    try (have txv11 := addI (a := xv10) (b := 1) (by omega) (by omega); rw [← exv11] at txv11)
    refine r_put C hM kh0 f_X10_29 (fun r h => by cases h; rfl) rfl rfl (mPut.I (ci := 10) (k := 7) rfl) dX10_putTextByte_60 (fun H locs hM => ?_)
    have hM : mH D H0 (pI (pL S 1006 h0 lv9) 1007 h0 xv11) kc ns H locs := hM
    have hI := hI.fe (fEq.I (S := (pL S 1006 h0 lv9)) (f := 1007) (a := h0) (v := xv11) (by decide))
    have hF := hF.trans (fEq.I (S := (pL S 1006 h0 lv9)) (f := 1007) (a := h0) (v := xv11) (by decide))
    exact r_retV C hr hlk hM (⟨rfl, rfl, hF, trivial⟩) dX10_putTextByte_63
  · have tcv2 := leF cv2
    refine lv_aload_n hx hb dX10_putTextByte_9 rfl (lv_at hl 0 rfl) ?_
    refine lv_dup hx hb dX10_putTextByte_10 rfl ?_
    refine r_get (ci := 10) (k := 5) (v := .long (mL S 1005 h0)) C hM kh0 f_X10_23 rfl dX10_putTextByte_11 ?_
    refine lv_topl (fun lv12 elv12 => ?_)
    refine lv_iload_n hx hb dX10_putTextByte_14 rfl (lv_at hl 1 rfl) ?_
    refine lv_i2l hx hb dX10_putTextByte_15 rfl ?_
    refine lv_topl (fun lv13 elv13 => ?_)
    refine lv_bipush (v := 8) hx hb dX10_putTextByte_16 (by decide) ?_
    refine lv_aload_n hx hb dX10_putTextByte_18 rfl (lv_at hl 0 rfl) ?_
    refine r_get (ci := 10) (k := 7) (v := .int (mI S 1007 h0)) C hM kh0 f_X10_29 rfl dX10_putTextByte_19 ?_
    refine lv_topi (fun xv14 exv14 => ?_)
    have gxv14 : xv14 = xv1 := exv14.trans (exv1.symm)
    have hxv14 : xv14.toInt = xv1.toInt := by rw [gxv14]
    refine lv_imul hx hb dX10_putTextByte_22 ?_
    refine lv_topi (fun xv15 exv15 => ?_)
    try (have txv15 := mulD (a := xv14) (k := 8) (n := 8) (by decide) (by omega) (by omega); rw [← exv15] at txv15)
    refine lv_lshl hx hb dX10_putTextByte_23 rfl ?_
    refine lv_topl (fun lv16 elv16 => ?_)
    refine lv_lor hx hb dX10_putTextByte_24 ?_
    refine lv_topl (fun lv17 elv17 => ?_)
    refine r_put C hM kh0 f_X10_23 (fun r h => by cases h; rfl) rfl rfl (mPut.L (ci := 10) (k := 5) rfl) dX10_putTextByte_25 (fun H locs hM => ?_)
    have hM : mH D H0 (pL S 1005 h0 lv17) kc ns H locs := hM
    have hI := hI.fe (fEq.L (S := S) (f := 1005) (a := h0) (v := lv17))
    have hF := hF.trans (fEq.L (S := S) (f := 1005) (a := h0) (v := lv17))
    refine lv_goto (tgt := 53) hx hb dX10_putTextByte_28 (by decide) ?_
    refine lv_aload_n hx hb dX10_putTextByte_53 rfl (lv_at hl 0 rfl) ?_
    refine lv_dup hx hb dX10_putTextByte_54 rfl ?_
    refine r_get (ci := 10) (k := 7) (v := .int (mI (pL S 1005 h0 lv17) 1007 h0)) C hM kh0 f_X10_29 rfl dX10_putTextByte_55 ?_
    refine lv_topi (fun xv18 exv18 => ?_)
    have gxv18 : xv18 = xv1 := exv18.trans (exv1.symm)
    have hxv18 : xv18.toInt = xv1.toInt := by rw [gxv18]
    refine lv_iconst (v := 1) hx hb dX10_putTextByte_58 (by decide) ?_
    refine lv_iadd hx hb dX10_putTextByte_59 ?_
    refine lv_topi (fun xv19 exv19 => ?_)
    try (have txv19 := addI (a := xv18) (b := 1) (by omega) (by omega); rw [← exv19] at txv19)
    refine r_put C hM kh0 f_X10_29 (fun r h => by cases h; rfl) rfl rfl (mPut.I (ci := 10) (k := 7) rfl) dX10_putTextByte_60 (fun H locs hM => ?_)
    have hM : mH D H0 (pI (pL S 1005 h0 lv17) 1007 h0 xv19) kc ns H locs := hM
    have hI := hI.fe (fEq.I (S := (pL S 1005 h0 lv17)) (f := 1007) (a := h0) (v := xv19) (by decide))
    have hF := hF.trans (fEq.I (S := (pL S 1005 h0 lv17)) (f := 1007) (a := h0) (v := xv19) (by decide))
    exact r_retV C hr hlk hM (⟨rfl, rfl, hF, trivial⟩) dX10_putTextByte_63
set_option maxHeartbeats 4000000 in
set_option maxRecDepth 100000 in
theorem c_X10_takeWord (l : Launch) (D : gD) (H0 : gB) (S : Mem) (kc ns : Nat) (h0 : Nat) {u : Nat} {tl : Int} {rho : Nat × Nat} (hI : CI x0 u tl rho S) (kh0 : mK S h0 = 11) : Met l yX10_takeWord (wsU yX10_takeWord cX10_takeWord 2 none) ({ frames := 1, cells := 0, slots := 0, locals := 21 } : Room) (mP D H0 S kc ns [.ref h0]) (mQ D H0 gV (fun r S1 k1 n1 => kc = k1 ∧ ns = n1 ∧ fEq S S1 ∧ True)) 0 0 (mF H0) := by
  refine r_met (own := RX10) (by decide +kernel) rfl (Nat.le_of_ble_eq_true rfl) ?_
  intro p e s m args below meth c C hr hlk hnm H ls hl hM
  obtain ⟨hx, hb, hml, hown, hts, -, -⟩ := id C
  have hl : lv_has ls 2 [(0, .ref h0)] := hl
  have hI0 := hI
  have hF : fEq S S := fEq.rf
  have t_0 : (0 : Int32).toInt = 0 := by decide
  have t_1 : (1 : Int32).toInt = 1 := by decide
  have t_5 : (5 : Int32).toInt = 5 := by decide
  have t_8 : (8 : Int32).toInt = 8 := by decide
  have t_96 : (96 : Int32).toInt = 96 := by decide
  refine lv_aload_n hx hb dX10_takeWord_0 rfl (lv_at hl 0 rfl) ?_
  refine lv_iconst (v := 1) hx hb dX10_takeWord_1 (by decide) ?_
  refine r_put C hM kh0 f_X10_13 (fun r h => by cases h; rfl) rfl rfl (mPut.I (ci := 10) (k := 2) rfl) dX10_takeWord_2 (fun H locs hM => ?_)
  have hM : mH D H0 (pI S 1002 h0 1) kc ns H locs := hM
  have hI := hI.fe (fEq.I (S := S) (f := 1002) (a := h0) (v := 1) (by decide))
  have hF := hF.trans (fEq.I (S := S) (f := 1002) (a := h0) (v := 1) (by decide))
  refine lv_aload_n hx hb dX10_takeWord_5 rfl (lv_at hl 0 rfl) ?_
  refine lv_lconst (v := 0) hx hb dX10_takeWord_6 (by decide) ?_
  refine r_put C hM kh0 f_X10_19 (fun r h => by cases h; rfl) rfl rfl (mPut.L (ci := 10) (k := 4) rfl) dX10_takeWord_7 (fun H locs hM => ?_)
  have hM : mH D H0 (pL (pI S 1002 h0 1) 1004 h0 0) kc ns H locs := hM
  have hI := hI.fe (fEq.L (S := (pI S 1002 h0 1)) (f := 1004) (a := h0) (v := 0))
  have hF := hF.trans (fEq.L (S := (pI S 1002 h0 1)) (f := 1004) (a := h0) (v := 0))
  refine lv_iconst (v := 0) hx hb dX10_takeWord_10 (by decide) ?_
  refine lv_istore_n (lv' := [(1, .int 0), (0, .ref h0)]) hx hb dX10_takeWord_11 rfl hl (by decide) rfl (fun ls hl => ?_)
  have hFa12 := hF
  have loop12 : ∀ (fu : Nat) (j : Int32) (Sa : Mem) (H : Heap) (locs : List Loc) (ls : Array Slot), (fEq S Sa) → (0 ≤ j.toInt) → (8 - j.toInt).toNat < fu → lv_has ls 2 [(0, .ref h0), (1, .int j)] → mH D H0 Sa kc ns H locs → W p l e ({ frames := 1, cells := 0, slots := 0, locals := 21 } : Room) s m args below meth c H locs 0 0 (MQ below (mQ D H0 gV (fun r S1 k1 n1 => kc = k1 ∧ ns = n1 ∧ fEq S S1 ∧ True)) args s 0 0 (mF H0)) (F0 m 12 ls []) := by
    intro fu
    induction fu with
    | zero => intro j Sa H locs ls h12_0 h12_1 hfu; exact absurd hfu (by omega)
    | succ fu ih12 =>
      intro j Sa H locs ls h12_0 h12_1 hfu hl hM
      have hF := h12_0
      have hI := hI0.fe hF
      have kh0 : mK Sa h0 = 11 := (congrFun (hF.1.trans hFa12.1.symm) h0).trans kh0
      refine lv_iload_n hx hb dX10_takeWord_12 rfl (lv_at hl 1 rfl) ?_
      refine lv_bipush (v := 8) hx hb dX10_takeWord_13 (by decide) ?_
      refine lv_icmp_ge (tgt := 79) hx hb dX10_takeWord_15 (by decide) (fun cv1 => ?_) (fun cv1 => ?_)
      · have tcv1 := leT cv1
        exact r_retV C hr hlk hM (⟨rfl, rfl, hF, trivial⟩) dX10_takeWord_79
      · have tcv1 := leF cv1
        refine lv_aload_n hx hb dX10_takeWord_18 rfl (lv_at hl 0 rfl) ?_
        obtain ⟨qv2, eqv2, kqv2, nqv2⟩ := TI.nn hI.1 (ci := 10) (k := 0) kh0
        refine r_get (ci := 10) (k := 0) (v := .ref qv2) C hM kh0 f_X10_32 (congrArg va_rf eqv2) dX10_takeWord_19 ?_
        refine lv_aload_n hx hb dX10_takeWord_22 rfl (lv_at hl 0 rfl) ?_
        refine r_get (ci := 10) (k := 1) (v := .int (mI Sa 1001 h0)) C hM kh0 f_X10_7 rfl dX10_takeWord_23 ?_
        refine lv_topi (fun xv3 exv3 => ?_)
        refine r_VN (As := [.int xv3]) (rest := []) (ci := 9) C hM (c_X9_byteAt l D H0 Sa kc ns qv2 xv3 hI kqv2) i_X9_byteAt m_X10_41 kqv2 rfl rfl rfl hl.1 rfl (Nat.le_of_ble_eq_true rfl) ⟨by decide, by decide⟩ ⟨by decide, by decide⟩ dX10_takeWord_26 (fun xv7 Sv4 kv5 nv6 H locs pv8 hM => ?_)
        obtain ⟨rfl, rfl, rfl, hxv7⟩ := pv8
        refine W.eq (g2 := F0 m 29 ls [.int xv7]) rfl ?_
        refine r_S (As := [.int xv7]) (rest := []) C hM (c_X10_isLetter l D H0 Sa kc ns xv7) i_X10_isLetter m_X10_49 rfl hl.1 rfl (Nat.le_of_ble_eq_true rfl) ⟨by decide, by decide⟩ ⟨by decide, by decide⟩ dX10_takeWord_29 (fun xv12 Sv9 kv10 nv11 H locs pv13 hM => ?_)
        obtain ⟨rfl, rfl, rfl, hxv12⟩ := pv13
        refine W.eq (g2 := F0 m 32 ls [.int xv12]) rfl ?_
        refine lv_if_eq (tgt := 79) hx hb dX10_takeWord_32 (by decide) (fun cv14 => ?_) (fun cv14 => ?_)
        · have tcv14 := eqT cv14
          exact r_retV C hr hlk hM (⟨rfl, rfl, hF, trivial⟩) dX10_takeWord_79
        · have tcv14 := eqF cv14
          refine lv_aload_n hx hb dX10_takeWord_35 rfl (lv_at hl 0 rfl) ?_
          refine lv_dup hx hb dX10_takeWord_36 rfl ?_
          refine r_get (ci := 10) (k := 4) (v := .long (mL Sa 1004 h0)) C hM kh0 f_X10_19 rfl dX10_takeWord_37 ?_
          refine lv_topl (fun lv15 elv15 => ?_)
          refine lv_aload_n hx hb dX10_takeWord_40 rfl (lv_at hl 0 rfl) ?_
          refine r_get (ci := 10) (k := 0) (v := .ref qv2) C hM kh0 f_X10_32 (congrArg va_rf (eqv2)) dX10_takeWord_41 ?_
          refine lv_aload_n hx hb dX10_takeWord_44 rfl (lv_at hl 0 rfl) ?_
          refine r_get (ci := 10) (k := 1) (v := .int (mI Sa 1001 h0)) C hM kh0 f_X10_7 rfl dX10_takeWord_45 ?_
          refine lv_topi (fun xv16 exv16 => ?_)
          have gxv16 : xv16 = xv3 := exv16.trans (exv3.symm)
          have hxv16 : xv16.toInt = xv3.toInt := by rw [gxv16]
          refine r_VN (As := [.int xv16]) (rest := [.long lv15, .ref h0]) (ci := 9) C hM (c_X9_byteAt l D H0 Sa kc ns qv2 xv16 hI kqv2) i_X9_byteAt m_X10_41 kqv2 rfl rfl rfl hl.1 rfl (Nat.le_of_ble_eq_true rfl) ⟨by decide, by decide⟩ ⟨by decide, by decide⟩ dX10_takeWord_48 (fun xv20 Sv17 kv18 nv19 H locs pv21 hM => ?_)
          obtain ⟨rfl, rfl, rfl, hxv20⟩ := pv21
          refine W.eq (g2 := F0 m 51 ls [.int xv20, .long lv15, .ref h0]) rfl ?_
          refine lv_bipush (v := 96) hx hb dX10_takeWord_51 (by decide) ?_
          refine lv_isub hx hb dX10_takeWord_53 ?_
          refine lv_topi (fun xv22 exv22 => ?_)
          try (have txv22 := subI (a := xv20) (b := 96) (by omega) (by omega); rw [← exv22] at txv22)
          refine lv_i2l hx hb dX10_takeWord_54 rfl ?_
          refine lv_topl (fun lv23 elv23 => ?_)
          refine lv_iload_n hx hb dX10_takeWord_55 rfl (lv_at hl 1 rfl) ?_
          refine lv_iconst (v := 5) hx hb dX10_takeWord_56 (by decide) ?_
          refine lv_imul hx hb dX10_takeWord_57 ?_
          refine lv_topi (fun xv24 exv24 => ?_)
          try (have txv24 := mulC (a := j) (k := 5) (n := 5) (by decide) (by omega) (by omega); rw [← exv24] at txv24)
          refine lv_lshl hx hb dX10_takeWord_58 rfl ?_
          refine lv_topl (fun lv25 elv25 => ?_)
          refine lv_lor hx hb dX10_takeWord_59 ?_
          refine lv_topl (fun lv26 elv26 => ?_)
          refine r_put C hM kh0 f_X10_19 (fun r h => by cases h; rfl) rfl rfl (mPut.L (ci := 10) (k := 4) rfl) dX10_takeWord_60 (fun H locs hM => ?_)
          have hM : mH D H0 (pL Sa 1004 h0 lv26) kc ns H locs := hM
          have hI := hI.fe (fEq.L (S := Sa) (f := 1004) (a := h0) (v := lv26))
          have hF := hF.trans (fEq.L (S := Sa) (f := 1004) (a := h0) (v := lv26))
          refine lv_aload_n hx hb dX10_takeWord_63 rfl (lv_at hl 0 rfl) ?_
          refine lv_dup hx hb dX10_takeWord_64 rfl ?_
          refine r_get (ci := 10) (k := 1) (v := .int (mI (pL Sa 1004 h0 lv26) 1001 h0)) C hM kh0 f_X10_7 rfl dX10_takeWord_65 ?_
          refine lv_topi (fun xv27 exv27 => ?_)
          have gxv27 : xv27 = xv3 := exv27.trans (exv3.symm)
          have hxv27 : xv27.toInt = xv3.toInt := by rw [gxv27]
          refine lv_iconst (v := 1) hx hb dX10_takeWord_68 (by decide) ?_
          refine lv_iadd hx hb dX10_takeWord_69 ?_
          refine lv_topi (fun xv28 exv28 => ?_)
          try (have txv28 := addI (a := xv27) (b := 1) (by omega) (by omega); rw [← exv28] at txv28)
          refine r_put C hM kh0 f_X10_7 (fun r h => by cases h; rfl) rfl rfl (mPut.I (ci := 10) (k := 1) rfl) dX10_takeWord_70 (fun H locs hM => ?_)
          have hM : mH D H0 (pI (pL Sa 1004 h0 lv26) 1001 h0 xv28) kc ns H locs := hM
          have hI := hI.fe (fEq.I (S := (pL Sa 1004 h0 lv26)) (f := 1001) (a := h0) (v := xv28) (by decide))
          have hF := hF.trans (fEq.I (S := (pL Sa 1004 h0 lv26)) (f := 1001) (a := h0) (v := xv28) (by decide))
          obtain ⟨xv29, exv29⟩ : ∃ y : Int32, y = j + 1 := ⟨_, rfl⟩
          try (have txv29 := addI (a := j) (b := 1) (by omega) (by omega); rw [← exv29] at txv29)
          refine lv_iinc (v := xv29) (lv' := [(1, .int xv29), (0, .ref h0)]) hx hb dX10_takeWord_73 hl (k := 1) rfl (by rw [exv29]; rfl) (by decide) rfl (fun ls hl => ?_)
          refine lv_goto (tgt := 12) hx hb dX10_takeWord_76 (by decide) ?_
          exact ih12 xv29 (pI (pL Sa 1004 h0 lv26) 1001 h0 xv28) _ _ _ (hF) (by omega) (by omega) (lv_sub hl [1, 0] rfl) hM
  exact loop12 (((8 - (0 : Int32).toInt).toNat) + 1) 0 (pL (pI S 1002 h0 1) 1004 h0 0) _ _ _ (hF) (by omega) (by omega) (lv_sub hl [1, 0] rfl) hM
set_option maxHeartbeats 4000000 in
set_option maxRecDepth 100000 in
theorem c_X10_takeText (l : Launch) (D : gD) (H0 : gB) (S : Mem) (kc ns : Nat) (h0 : Nat) {u : Nat} {tl : Int} {rho : Nat × Nat} (hI : CI x0 u tl rho S) (kh0 : mK S h0 = 11) : Met l yX10_takeText (wsU yX10_takeText cX10_takeText 2 none) ({ frames := 1, cells := 0, slots := 0, locals := 21 } : Room) (mP D H0 S kc ns [.ref h0]) (mQ D H0 gV (fun r S1 k1 n1 => kc = k1 ∧ ns = n1 ∧ fEq S S1 ∧ True)) 0 0 (mF H0) := by
  refine r_met (own := RX10) (by decide +kernel) rfl (Nat.le_of_ble_eq_true rfl) ?_
  intro p e s m args below meth c C hr hlk hnm H ls hl hM
  obtain ⟨hx, hb, hml, hown, hts, -, -⟩ := id C
  have hl : lv_has ls 2 [(0, .ref h0)] := hl
  have hI0 := hI
  have hF : fEq S S := fEq.rf
  have t_0 : (0 : Int32).toInt = 0 := by decide
  have t_1 : (1 : Int32).toInt = 1 := by decide
  have t_2 : (2 : Int32).toInt = 2 := by decide
  have t_7 : (7 : Int32).toInt = 7 := by decide
  have t_16 : (16 : Int32).toInt = 16 := by decide
  have t_34 : (34 : Int32).toInt = 34 := by decide
  refine lv_aload_n hx hb dX10_takeText_0 rfl (lv_at hl 0 rfl) ?_
  refine lv_dup hx hb dX10_takeText_1 rfl ?_
  refine r_get (ci := 10) (k := 1) (v := .int (mI S 1001 h0)) C hM kh0 f_X10_7 rfl dX10_takeText_2 ?_
  refine lv_topi (fun xv1 exv1 => ?_)
  refine lv_iconst (v := 1) hx hb dX10_takeText_5 (by decide) ?_
  refine lv_iadd hx hb dX10_takeText_6 ?_
  refine lv_topi (fun xv2 exv2 => ?_)
  try (have txv2 := addI (a := xv1) (b := 1) (by omega) (by omega); rw [← exv2] at txv2)
  refine r_put C hM kh0 f_X10_7 (fun r h => by cases h; rfl) rfl rfl (mPut.I (ci := 10) (k := 1) rfl) dX10_takeText_7 (fun H locs hM => ?_)
  have hM : mH D H0 (pI S 1001 h0 xv2) kc ns H locs := hM
  have hI := hI.fe (fEq.I (S := S) (f := 1001) (a := h0) (v := xv2) (by decide))
  have hF := hF.trans (fEq.I (S := S) (f := 1001) (a := h0) (v := xv2) (by decide))
  refine lv_aload_n hx hb dX10_takeText_10 rfl (lv_at hl 0 rfl) ?_
  refine lv_lconst (v := 0) hx hb dX10_takeText_11 (by decide) ?_
  refine r_put C hM kh0 f_X10_23 (fun r h => by cases h; rfl) rfl rfl (mPut.L (ci := 10) (k := 5) rfl) dX10_takeText_12 (fun H locs hM => ?_)
  have hM : mH D H0 (pL (pI S 1001 h0 xv2) 1005 h0 0) kc ns H locs := hM
  have hI := hI.fe (fEq.L (S := (pI S 1001 h0 xv2)) (f := 1005) (a := h0) (v := 0))
  have hF := hF.trans (fEq.L (S := (pI S 1001 h0 xv2)) (f := 1005) (a := h0) (v := 0))
  refine lv_aload_n hx hb dX10_takeText_15 rfl (lv_at hl 0 rfl) ?_
  refine lv_lconst (v := 0) hx hb dX10_takeText_16 (by decide) ?_
  refine r_put C hM kh0 f_X10_26 (fun r h => by cases h; rfl) rfl rfl (mPut.L (ci := 10) (k := 6) rfl) dX10_takeText_17 (fun H locs hM => ?_)
  have hM : mH D H0 (pL (pL (pI S 1001 h0 xv2) 1005 h0 0) 1006 h0 0) kc ns H locs := hM
  have hI := hI.fe (fEq.L (S := (pL (pI S 1001 h0 xv2) 1005 h0 0)) (f := 1006) (a := h0) (v := 0))
  have hF := hF.trans (fEq.L (S := (pL (pI S 1001 h0 xv2) 1005 h0 0)) (f := 1006) (a := h0) (v := 0))
  refine lv_aload_n hx hb dX10_takeText_20 rfl (lv_at hl 0 rfl) ?_
  refine lv_iconst (v := 0) hx hb dX10_takeText_21 (by decide) ?_
  refine r_put C hM kh0 f_X10_29 (fun r h => by cases h; rfl) rfl rfl (mPut.I (ci := 10) (k := 7) rfl) dX10_takeText_22 (fun H locs hM => ?_)
  have hM : mH D H0 (pI (pL (pL (pI S 1001 h0 xv2) 1005 h0 0) 1006 h0 0) 1007 h0 0) kc ns H locs := hM
  have hI := hI.fe (fEq.I (S := (pL (pL (pI S 1001 h0 xv2) 1005 h0 0) 1006 h0 0)) (f := 1007) (a := h0) (v := 0) (by decide))
  have hF := hF.trans (fEq.I (S := (pL (pL (pI S 1001 h0 xv2) 1005 h0 0) 1006 h0 0)) (f := 1007) (a := h0) (v := 0) (by decide))
  refine lv_iconst (v := 0) hx hb dX10_takeText_25 (by decide) ?_
  refine lv_istore_n (lv' := [(1, .int 0), (0, .ref h0)]) hx hb dX10_takeText_26 rfl hl (by decide) rfl (fun ls hl => ?_)
  have hFa27 := hF
  have loop27 : ∀ (fu : Nat) (j : Int32) (Sa : Mem) (H : Heap) (locs : List Loc) (ls : Array Slot), (fEq S Sa) → (0 ≤ j.toInt) → (16 - j.toInt).toNat < fu → lv_has ls 2 [(0, .ref h0), (1, .int j)] → mH D H0 Sa kc ns H locs → W p l e ({ frames := 1, cells := 0, slots := 0, locals := 21 } : Room) s m args below meth c H locs 0 0 (MQ below (mQ D H0 gV (fun r S1 k1 n1 => kc = k1 ∧ ns = n1 ∧ fEq S S1 ∧ True)) args s 0 0 (mF H0)) (F0 m 27 ls []) := by
    intro fu
    induction fu with
    | zero => intro j Sa H locs ls h27_0 h27_1 hfu; exact absurd hfu (by omega)
    | succ fu ih27 =>
      intro j Sa H locs ls h27_0 h27_1 hfu hl hM
      have hF := h27_0
      have hI := hI0.fe hF
      have kh0 : mK Sa h0 = 11 := (congrFun (hF.1.trans hFa27.1.symm) h0).trans kh0
      refine lv_iload_n hx hb dX10_takeText_27 rfl (lv_at hl 1 rfl) ?_
      refine lv_bipush (v := 16) hx hb dX10_takeText_28 (by decide) ?_
      refine lv_icmp_ge (tgt := 81) hx hb dX10_takeText_30 (by decide) (fun cv3 => ?_) (fun cv3 => ?_)
      · have tcv3 := leT cv3
        refine lv_aload_n hx hb dX10_takeText_81 rfl (lv_at hl 0 rfl) ?_
        refine lv_aload_n hx hb dX10_takeText_82 rfl (lv_at hl 0 rfl) ?_
        obtain ⟨qv4, eqv4, kqv4, nqv4⟩ := TI.nn hI.1 (ci := 10) (k := 0) kh0
        refine r_get (ci := 10) (k := 0) (v := .ref qv4) C hM kh0 f_X10_32 (congrArg va_rf eqv4) dX10_takeText_83 ?_
        refine lv_aload_n hx hb dX10_takeText_86 rfl (lv_at hl 0 rfl) ?_
        refine r_get (ci := 10) (k := 1) (v := .int (mI Sa 1001 h0)) C hM kh0 f_X10_7 rfl dX10_takeText_87 ?_
        refine lv_topi (fun xv5 exv5 => ?_)
        refine r_VN (As := [.int xv5]) (rest := [.ref h0]) (ci := 9) C hM (c_X9_byteAt l D H0 Sa kc ns qv4 xv5 hI kqv4) i_X9_byteAt m_X10_41 kqv4 rfl rfl rfl hl.1 rfl (Nat.le_of_ble_eq_true rfl) ⟨by decide, by decide⟩ ⟨by decide, by decide⟩ dX10_takeText_90 (fun xv9 Sv6 kv7 nv8 H locs pv10 hM => ?_)
        obtain ⟨rfl, rfl, rfl, hxv9⟩ := pv10
        refine W.eq (g2 := F0 m 93 ls [.int xv9, .ref h0]) rfl ?_
        refine lv_bipush (v := 34) hx hb dX10_takeText_93 (by decide) ?_
        refine lv_icmp_ne (tgt := 102) hx hb dX10_takeText_95 (by decide) (fun cv11 => ?_) (fun cv11 => ?_)
        · have tcv11 := eqF cv11
          refine lv_bipush (v := 7) hx hb dX10_takeText_102 (by decide) ?_
          refine r_put C hM kh0 f_X10_13 (fun r h => by cases h; rfl) rfl rfl (mPut.I (ci := 10) (k := 2) rfl) dX10_takeText_104 (fun H locs hM => ?_)
          have hM : mH D H0 (pI Sa 1002 h0 7) kc ns H locs := hM
          have hI := hI.fe (fEq.I (S := Sa) (f := 1002) (a := h0) (v := 7) (by decide))
          have hF := hF.trans (fEq.I (S := Sa) (f := 1002) (a := h0) (v := 7) (by decide))
          refine lv_aload_n hx hb dX10_takeText_107 rfl (lv_at hl 0 rfl) ?_
          refine lv_dup hx hb dX10_takeText_108 rfl ?_
          refine r_get (ci := 10) (k := 1) (v := .int (mI (pI Sa 1002 h0 7) 1001 h0)) C hM kh0 f_X10_7 rfl dX10_takeText_109 ?_
          refine lv_topi (fun xv12 exv12 => ?_)
          have gxv12 : xv12 = xv5 := exv12.trans (exv5.symm)
          have hxv12 : xv12.toInt = xv5.toInt := by rw [gxv12]
          refine lv_iconst (v := 1) hx hb dX10_takeText_112 (by decide) ?_
          refine lv_iadd hx hb dX10_takeText_113 ?_
          refine lv_topi (fun xv13 exv13 => ?_)
          try (have txv13 := addI (a := xv12) (b := 1) (by omega) (by omega); rw [← exv13] at txv13)
          refine r_put C hM kh0 f_X10_7 (fun r h => by cases h; rfl) rfl rfl (mPut.I (ci := 10) (k := 1) rfl) dX10_takeText_114 (fun H locs hM => ?_)
          have hM : mH D H0 (pI (pI Sa 1002 h0 7) 1001 h0 xv13) kc ns H locs := hM
          have hI := hI.fe (fEq.I (S := (pI Sa 1002 h0 7)) (f := 1001) (a := h0) (v := xv13) (by decide))
          have hF := hF.trans (fEq.I (S := (pI Sa 1002 h0 7)) (f := 1001) (a := h0) (v := xv13) (by decide))
          exact r_retV C hr hlk hM (⟨rfl, rfl, hF, trivial⟩) dX10_takeText_117
        · have tcv11 := eqT cv11
          refine lv_iconst (v := 2) hx hb dX10_takeText_98 (by decide) ?_
          refine lv_goto (tgt := 104) hx hb dX10_takeText_99 (by decide) ?_
          refine r_put C hM kh0 f_X10_13 (fun r h => by cases h; rfl) rfl rfl (mPut.I (ci := 10) (k := 2) rfl) dX10_takeText_104 (fun H locs hM => ?_)
          have hM : mH D H0 (pI Sa 1002 h0 2) kc ns H locs := hM
          have hI := hI.fe (fEq.I (S := Sa) (f := 1002) (a := h0) (v := 2) (by decide))
          have hF := hF.trans (fEq.I (S := Sa) (f := 1002) (a := h0) (v := 2) (by decide))
          refine lv_aload_n hx hb dX10_takeText_107 rfl (lv_at hl 0 rfl) ?_
          refine lv_dup hx hb dX10_takeText_108 rfl ?_
          refine r_get (ci := 10) (k := 1) (v := .int (mI (pI Sa 1002 h0 2) 1001 h0)) C hM kh0 f_X10_7 rfl dX10_takeText_109 ?_
          refine lv_topi (fun xv14 exv14 => ?_)
          have gxv14 : xv14 = xv5 := exv14.trans (exv5.symm)
          have hxv14 : xv14.toInt = xv5.toInt := by rw [gxv14]
          refine lv_iconst (v := 1) hx hb dX10_takeText_112 (by decide) ?_
          refine lv_iadd hx hb dX10_takeText_113 ?_
          refine lv_topi (fun xv15 exv15 => ?_)
          try (have txv15 := addI (a := xv14) (b := 1) (by omega) (by omega); rw [← exv15] at txv15)
          refine r_put C hM kh0 f_X10_7 (fun r h => by cases h; rfl) rfl rfl (mPut.I (ci := 10) (k := 1) rfl) dX10_takeText_114 (fun H locs hM => ?_)
          have hM : mH D H0 (pI (pI Sa 1002 h0 2) 1001 h0 xv15) kc ns H locs := hM
          have hI := hI.fe (fEq.I (S := (pI Sa 1002 h0 2)) (f := 1001) (a := h0) (v := xv15) (by decide))
          have hF := hF.trans (fEq.I (S := (pI Sa 1002 h0 2)) (f := 1001) (a := h0) (v := xv15) (by decide))
          exact r_retV C hr hlk hM (⟨rfl, rfl, hF, trivial⟩) dX10_takeText_117
      · have tcv3 := leF cv3
        refine lv_aload_n hx hb dX10_takeText_33 rfl (lv_at hl 0 rfl) ?_
        obtain ⟨qv16, eqv16, kqv16, nqv16⟩ := TI.nn hI.1 (ci := 10) (k := 0) kh0
        refine r_get (ci := 10) (k := 0) (v := .ref qv16) C hM kh0 f_X10_32 (congrArg va_rf eqv16) dX10_takeText_34 ?_
        refine lv_aload_n hx hb dX10_takeText_37 rfl (lv_at hl 0 rfl) ?_
        refine r_get (ci := 10) (k := 1) (v := .int (mI Sa 1001 h0)) C hM kh0 f_X10_7 rfl dX10_takeText_38 ?_
        refine lv_topi (fun xv17 exv17 => ?_)
        refine r_VN (As := [.int xv17]) (rest := []) (ci := 9) C hM (c_X9_byteAt l D H0 Sa kc ns qv16 xv17 hI kqv16) i_X9_byteAt m_X10_41 kqv16 rfl rfl rfl hl.1 rfl (Nat.le_of_ble_eq_true rfl) ⟨by decide, by decide⟩ ⟨by decide, by decide⟩ dX10_takeText_41 (fun xv21 Sv18 kv19 nv20 H locs pv22 hM => ?_)
        obtain ⟨rfl, rfl, rfl, hxv21⟩ := pv22
        refine W.eq (g2 := F0 m 44 ls [.int xv21]) rfl ?_
        refine r_S (As := [.int xv21]) (rest := []) C hM (c_X10_isTextByte l D H0 Sa kc ns xv21) i_X10_isTextByte m_X10_61 rfl hl.1 rfl (Nat.le_of_ble_eq_true rfl) ⟨by decide, by decide⟩ ⟨by decide, by decide⟩ dX10_takeText_44 (fun xv26 Sv23 kv24 nv25 H locs pv27 hM => ?_)
        obtain ⟨rfl, rfl, rfl, hxv26⟩ := pv27
        refine W.eq (g2 := F0 m 47 ls [.int xv26]) rfl ?_
        refine lv_if_eq (tgt := 81) hx hb dX10_takeText_47 (by decide) (fun cv28 => ?_) (fun cv28 => ?_)
        · have tcv28 := eqT cv28
          refine lv_aload_n hx hb dX10_takeText_81 rfl (lv_at hl 0 rfl) ?_
          refine lv_aload_n hx hb dX10_takeText_82 rfl (lv_at hl 0 rfl) ?_
          refine r_get (ci := 10) (k := 0) (v := .ref qv16) C hM kh0 f_X10_32 (congrArg va_rf (eqv16)) dX10_takeText_83 ?_
          refine lv_aload_n hx hb dX10_takeText_86 rfl (lv_at hl 0 rfl) ?_
          refine r_get (ci := 10) (k := 1) (v := .int (mI Sa 1001 h0)) C hM kh0 f_X10_7 rfl dX10_takeText_87 ?_
          refine lv_topi (fun xv29 exv29 => ?_)
          have gxv29 : xv29 = xv17 := exv29.trans (exv17.symm)
          have hxv29 : xv29.toInt = xv17.toInt := by rw [gxv29]
          refine r_VN (As := [.int xv29]) (rest := [.ref h0]) (ci := 9) C hM (c_X9_byteAt l D H0 Sa kc ns qv16 xv29 hI kqv16) i_X9_byteAt m_X10_41 kqv16 rfl rfl rfl hl.1 rfl (Nat.le_of_ble_eq_true rfl) ⟨by decide, by decide⟩ ⟨by decide, by decide⟩ dX10_takeText_90 (fun xv33 Sv30 kv31 nv32 H locs pv34 hM => ?_)
          obtain ⟨rfl, rfl, rfl, hxv33⟩ := pv34
          refine W.eq (g2 := F0 m 93 ls [.int xv33, .ref h0]) rfl ?_
          refine lv_bipush (v := 34) hx hb dX10_takeText_93 (by decide) ?_
          refine lv_icmp_ne (tgt := 102) hx hb dX10_takeText_95 (by decide) (fun cv35 => ?_) (fun cv35 => ?_)
          · have tcv35 := eqF cv35
            refine lv_bipush (v := 7) hx hb dX10_takeText_102 (by decide) ?_
            refine r_put C hM kh0 f_X10_13 (fun r h => by cases h; rfl) rfl rfl (mPut.I (ci := 10) (k := 2) rfl) dX10_takeText_104 (fun H locs hM => ?_)
            have hM : mH D H0 (pI Sa 1002 h0 7) kc ns H locs := hM
            have hI := hI.fe (fEq.I (S := Sa) (f := 1002) (a := h0) (v := 7) (by decide))
            have hF := hF.trans (fEq.I (S := Sa) (f := 1002) (a := h0) (v := 7) (by decide))
            refine lv_aload_n hx hb dX10_takeText_107 rfl (lv_at hl 0 rfl) ?_
            refine lv_dup hx hb dX10_takeText_108 rfl ?_
            refine r_get (ci := 10) (k := 1) (v := .int (mI (pI Sa 1002 h0 7) 1001 h0)) C hM kh0 f_X10_7 rfl dX10_takeText_109 ?_
            refine lv_topi (fun xv36 exv36 => ?_)
            have gxv36 : xv36 = xv17 := exv36.trans (exv17.symm)
            have hxv36 : xv36.toInt = xv17.toInt := by rw [gxv36]
            refine lv_iconst (v := 1) hx hb dX10_takeText_112 (by decide) ?_
            refine lv_iadd hx hb dX10_takeText_113 ?_
            refine lv_topi (fun xv37 exv37 => ?_)
            try (have txv37 := addI (a := xv36) (b := 1) (by omega) (by omega); rw [← exv37] at txv37)
            refine r_put C hM kh0 f_X10_7 (fun r h => by cases h; rfl) rfl rfl (mPut.I (ci := 10) (k := 1) rfl) dX10_takeText_114 (fun H locs hM => ?_)
            have hM : mH D H0 (pI (pI Sa 1002 h0 7) 1001 h0 xv37) kc ns H locs := hM
            have hI := hI.fe (fEq.I (S := (pI Sa 1002 h0 7)) (f := 1001) (a := h0) (v := xv37) (by decide))
            have hF := hF.trans (fEq.I (S := (pI Sa 1002 h0 7)) (f := 1001) (a := h0) (v := xv37) (by decide))
            exact r_retV C hr hlk hM (⟨rfl, rfl, hF, trivial⟩) dX10_takeText_117
          · have tcv35 := eqT cv35
            refine lv_iconst (v := 2) hx hb dX10_takeText_98 (by decide) ?_
            refine lv_goto (tgt := 104) hx hb dX10_takeText_99 (by decide) ?_
            refine r_put C hM kh0 f_X10_13 (fun r h => by cases h; rfl) rfl rfl (mPut.I (ci := 10) (k := 2) rfl) dX10_takeText_104 (fun H locs hM => ?_)
            have hM : mH D H0 (pI Sa 1002 h0 2) kc ns H locs := hM
            have hI := hI.fe (fEq.I (S := Sa) (f := 1002) (a := h0) (v := 2) (by decide))
            have hF := hF.trans (fEq.I (S := Sa) (f := 1002) (a := h0) (v := 2) (by decide))
            refine lv_aload_n hx hb dX10_takeText_107 rfl (lv_at hl 0 rfl) ?_
            refine lv_dup hx hb dX10_takeText_108 rfl ?_
            refine r_get (ci := 10) (k := 1) (v := .int (mI (pI Sa 1002 h0 2) 1001 h0)) C hM kh0 f_X10_7 rfl dX10_takeText_109 ?_
            refine lv_topi (fun xv38 exv38 => ?_)
            have gxv38 : xv38 = xv17 := exv38.trans (exv17.symm)
            have hxv38 : xv38.toInt = xv17.toInt := by rw [gxv38]
            refine lv_iconst (v := 1) hx hb dX10_takeText_112 (by decide) ?_
            refine lv_iadd hx hb dX10_takeText_113 ?_
            refine lv_topi (fun xv39 exv39 => ?_)
            try (have txv39 := addI (a := xv38) (b := 1) (by omega) (by omega); rw [← exv39] at txv39)
            refine r_put C hM kh0 f_X10_7 (fun r h => by cases h; rfl) rfl rfl (mPut.I (ci := 10) (k := 1) rfl) dX10_takeText_114 (fun H locs hM => ?_)
            have hM : mH D H0 (pI (pI Sa 1002 h0 2) 1001 h0 xv39) kc ns H locs := hM
            have hI := hI.fe (fEq.I (S := (pI Sa 1002 h0 2)) (f := 1001) (a := h0) (v := xv39) (by decide))
            have hF := hF.trans (fEq.I (S := (pI Sa 1002 h0 2)) (f := 1001) (a := h0) (v := xv39) (by decide))
            exact r_retV C hr hlk hM (⟨rfl, rfl, hF, trivial⟩) dX10_takeText_117
        · have tcv28 := eqF cv28
          refine lv_aload_n hx hb dX10_takeText_50 rfl (lv_at hl 0 rfl) ?_
          refine lv_aload_n hx hb dX10_takeText_51 rfl (lv_at hl 0 rfl) ?_
          refine r_get (ci := 10) (k := 0) (v := .ref qv16) C hM kh0 f_X10_32 (congrArg va_rf (eqv16)) dX10_takeText_52 ?_
          refine lv_aload_n hx hb dX10_takeText_55 rfl (lv_at hl 0 rfl) ?_
          refine r_get (ci := 10) (k := 1) (v := .int (mI Sa 1001 h0)) C hM kh0 f_X10_7 rfl dX10_takeText_56 ?_
          refine lv_topi (fun xv40 exv40 => ?_)
          have gxv40 : xv40 = xv17 := exv40.trans (exv17.symm)
          have hxv40 : xv40.toInt = xv17.toInt := by rw [gxv40]
          refine r_VN (As := [.int xv40]) (rest := [.ref h0]) (ci := 9) C hM (c_X9_byteAt l D H0 Sa kc ns qv16 xv40 hI kqv16) i_X9_byteAt m_X10_41 kqv16 rfl rfl rfl hl.1 rfl (Nat.le_of_ble_eq_true rfl) ⟨by decide, by decide⟩ ⟨by decide, by decide⟩ dX10_takeText_59 (fun xv44 Sv41 kv42 nv43 H locs pv45 hM => ?_)
          obtain ⟨rfl, rfl, rfl, hxv44⟩ := pv45
          refine W.eq (g2 := F0 m 62 ls [.int xv44, .ref h0]) rfl ?_
          refine r_V (As := [.int xv44]) (rest := []) (ci := 10) C hM (c_X10_putTextByte l D H0 Sa kc ns h0 xv44 hI kh0) i_X10_putTextByte m_X10_64 kh0 rfl rfl rfl hl.1 rfl (Nat.le_of_ble_eq_true rfl) ⟨by decide, by decide⟩ ⟨by decide, by decide⟩ dX10_takeText_62 (fun uv49 Sv46 kv47 nv48 H locs pv50 hM => ?_)
          obtain ⟨rfl, rfl, hf9, huv49⟩ := pv50
          have hF := hF.trans hf9
          have hI := hI.fe hf9
          have kh0 : mK Sv46 h0 = 11 := (congrFun (hf9.1) h0).trans kh0
          have kqv16 : mK Sv46 qv16 = 10 := (congrFun (hf9.1) qv16).trans kqv16
          have vv51 : mR Sv46 1000 h0 = some qv16 := (congrFun (congrFun hf9.2.1 1000) h0).trans (eqv16)
          refine W.eq (g2 := F0 m 65 ls []) rfl ?_
          refine lv_aload_n hx hb dX10_takeText_65 rfl (lv_at hl 0 rfl) ?_
          refine lv_dup hx hb dX10_takeText_66 rfl ?_
          refine r_get (ci := 10) (k := 1) (v := .int (mI Sv46 1001 h0)) C hM kh0 f_X10_7 rfl dX10_takeText_67 ?_
          refine lv_topi (fun xv52 exv52 => ?_)
          refine lv_iconst (v := 1) hx hb dX10_takeText_70 (by decide) ?_
          refine lv_iadd hx hb dX10_takeText_71 ?_
          refine lv_topi (fun xv53 exv53 => ?_)
          try (have txv53 := addI (a := xv52) (b := 1) (by omega) (by omega); rw [← exv53] at txv53)
          refine r_put C hM kh0 f_X10_7 (fun r h => by cases h; rfl) rfl rfl (mPut.I (ci := 10) (k := 1) rfl) dX10_takeText_72 (fun H locs hM => ?_)
          have hM : mH D H0 (pI Sv46 1001 h0 xv53) kc ns H locs := hM
          have hI := hI.fe (fEq.I (S := Sv46) (f := 1001) (a := h0) (v := xv53) (by decide))
          have hF := hF.trans (fEq.I (S := Sv46) (f := 1001) (a := h0) (v := xv53) (by decide))
          obtain ⟨xv54, exv54⟩ : ∃ y : Int32, y = j + 1 := ⟨_, rfl⟩
          try (have txv54 := addI (a := j) (b := 1) (by omega) (by omega); rw [← exv54] at txv54)
          refine lv_iinc (v := xv54) (lv' := [(1, .int xv54), (0, .ref h0)]) hx hb dX10_takeText_75 hl (k := 1) rfl (by rw [exv54]; rfl) (by decide) rfl (fun ls hl => ?_)
          refine lv_goto (tgt := 27) hx hb dX10_takeText_78 (by decide) ?_
          exact ih27 xv54 (pI Sv46 1001 h0 xv53) _ _ _ (hF) (by omega) (by omega) (lv_sub hl [1, 0] rfl) hM
  exact loop27 (((16 - (0 : Int32).toInt).toNat) + 1) 0 (pI (pL (pL (pI S 1001 h0 xv2) 1005 h0 0) 1006 h0 0) 1007 h0 0) _ _ _ (hF) (by omega) (by omega) (lv_sub hl [1, 0] rfl) hM
set_option maxHeartbeats 4000000 in
set_option maxRecDepth 100000 in
theorem c_X10_advance (l : Launch) (D : gD) (H0 : gB) (S : Mem) (kc ns : Nat) (h0 : Nat) {u : Nat} {tl : Int} {rho : Nat × Nat} (hI : CI x0 u tl rho S) (kh0 : mK S h0 = 11) : Met l yX10_advance (wsU yX10_advance cX10_advance 2 none) ({ frames := 2, cells := 0, slots := 0, locals := 42 } : Room) (mP D H0 S kc ns [.ref h0]) (mQ D H0 gV (fun r S1 k1 n1 => kc = k1 ∧ ns = n1 ∧ fEq S S1 ∧ True)) 0 0 (mF H0) := by
  refine r_met (own := RX10) (by decide +kernel) rfl (Nat.le_of_ble_eq_true rfl) ?_
  intro p e s m args below meth c C hr hlk hnm H ls hl hM
  obtain ⟨hx, hb, hml, hown, hts, -, -⟩ := id C
  have hl : lv_has ls 2 [(0, .ref h0)] := hl
  have hI0 := hI
  have hF : fEq S S := fEq.rf
  have t_0 : (0 : Int32).toInt = 0 := by decide
  have t_1 : (1 : Int32).toInt = 1 := by decide
  have t_34 : (34 : Int32).toInt = 34 := by decide
  have hFa0 := hF
  have loop0 : ∀ (fu : Nat) (Sa : Mem) (H : Heap) (locs : List Loc) (ls : Array Slot), (fEq S Sa) → (1601 - (mI Sa 1001 h0).toInt).toNat < fu → lv_has ls 2 [(0, .ref h0)] → mH D H0 Sa kc ns H locs → W p l e ({ frames := 2, cells := 0, slots := 0, locals := 42 } : Room) s m args below meth c H locs 0 0 (MQ below (mQ D H0 gV (fun r S1 k1 n1 => kc = k1 ∧ ns = n1 ∧ fEq S S1 ∧ True)) args s 0 0 (mF H0)) (F0 m 0 ls []) := by
    intro fu
    induction fu with
    | zero => intro Sa H locs ls h0_0 hfu; exact absurd hfu (by omega)
    | succ fu ih0 =>
      intro Sa H locs ls h0_0 hfu hl hM
      have hF := h0_0
      have hI := hI0.fe hF
      have kh0 : mK Sa h0 = 11 := (congrFun (hF.1.trans hFa0.1.symm) h0).trans kh0
      refine lv_aload_n hx hb dX10_advance_0 rfl (lv_at hl 0 rfl) ?_
      refine r_get (ci := 10) (k := 1) (v := .int (mI Sa 1001 h0)) C hM kh0 f_X10_7 rfl dX10_advance_1 ?_
      refine lv_topi (fun xv1 exv1 => ?_)
      refine lv_aload_n hx hb dX10_advance_4 rfl (lv_at hl 0 rfl) ?_
      obtain ⟨qv2, eqv2, kqv2, nqv2⟩ := TI.nn hI.1 (ci := 10) (k := 0) kh0
      refine r_get (ci := 10) (k := 0) (v := .ref qv2) C hM kh0 f_X10_32 (congrArg va_rf eqv2) dX10_advance_5 ?_
      refine r_getN (ci := 9) (k := 1) (v := .int (mI Sa 901 qv2)) C hM kqv2 f_X10_36 rfl dX10_advance_8 ?_
      refine lv_topi (fun xv3 exv3 => ?_)
      have fxv3 := NI.f901 hI.2 kqv2
      rw [← exv3] at fxv3
      refine lv_icmp_ge (tgt := 44) hx hb dX10_advance_11 (by decide) (fun cv4 => ?_) (fun cv4 => ?_)
      · have tcv4 := leT cv4
        refine lv_aload_n hx hb dX10_advance_44 rfl (lv_at hl 0 rfl) ?_
        refine lv_aload_n hx hb dX10_advance_45 rfl (lv_at hl 0 rfl) ?_
        refine r_get (ci := 10) (k := 1) (v := .int (mI Sa 1001 h0)) C hM kh0 f_X10_7 rfl dX10_advance_46 ?_
        refine lv_topi (fun xv5 exv5 => ?_)
        have gxv5 : xv5 = xv1 := exv5.trans (exv1.symm)
        have hxv5 : xv5.toInt = xv1.toInt := by rw [gxv5]
        refine r_put C hM kh0 f_X10_16 (fun r h => by cases h; rfl) rfl rfl (mPut.I (ci := 10) (k := 3) rfl) dX10_advance_49 (fun H locs hM => ?_)
        have hM : mH D H0 (pI Sa 1003 h0 xv5) kc ns H locs := hM
        have hI := hI.fe (fEq.I (S := Sa) (f := 1003) (a := h0) (v := xv5) (by decide))
        have hF := hF.trans (fEq.I (S := Sa) (f := 1003) (a := h0) (v := xv5) (by decide))
        refine lv_aload_n hx hb dX10_advance_52 rfl (lv_at hl 0 rfl) ?_
        refine r_get (ci := 10) (k := 0) (v := .ref qv2) C hM kh0 f_X10_32 (congrArg va_rf (eqv2)) dX10_advance_53 ?_
        refine lv_aload_n hx hb dX10_advance_56 rfl (lv_at hl 0 rfl) ?_
        refine r_get (ci := 10) (k := 1) (v := .int (mI (pI Sa 1003 h0 xv5) 1001 h0)) C hM kh0 f_X10_7 rfl dX10_advance_57 ?_
        refine lv_topi (fun xv6 exv6 => ?_)
        have gxv6 : xv6 = xv1 := exv6.trans (exv1.symm)
        have hxv6 : xv6.toInt = xv1.toInt := by rw [gxv6]
        refine r_VN (As := [.int xv6]) (rest := []) (ci := 9) C hM (c_X9_byteAt l D H0 (pI Sa 1003 h0 xv5) kc ns qv2 xv6 hI kqv2) i_X9_byteAt m_X10_41 kqv2 rfl rfl rfl hl.1 rfl (Nat.le_of_ble_eq_true rfl) ⟨by decide, by decide⟩ ⟨by decide, by decide⟩ dX10_advance_60 (fun xv10 Sv7 kv8 nv9 H locs pv11 hM => ?_)
        obtain ⟨rfl, rfl, rfl, hxv10⟩ := pv11
        refine W.eq (g2 := F0 m 63 ls [.int xv10]) rfl ?_
        refine lv_istore_n (lv' := [(1, .int xv10), (0, .ref h0)]) hx hb dX10_advance_63 rfl hl (by decide) rfl (fun ls hl => ?_)
        refine lv_iload_n hx hb dX10_advance_64 rfl (lv_at hl 0 rfl) ?_
        refine r_S (As := [.int xv10]) (rest := []) C hM (c_X10_isLetter l D H0 (pI Sa 1003 h0 xv5) kc ns xv10) i_X10_isLetter m_X10_49 rfl hl.1 rfl (Nat.le_of_ble_eq_true rfl) ⟨by decide, by decide⟩ ⟨by decide, by decide⟩ dX10_advance_65 (fun xv15 Sv12 kv13 nv14 H locs pv16 hM => ?_)
        obtain ⟨rfl, rfl, rfl, hxv15⟩ := pv16
        refine W.eq (g2 := F0 m 68 ls [.int xv15]) rfl ?_
        refine lv_if_eq (tgt := 78) hx hb dX10_advance_68 (by decide) (fun cv17 => ?_) (fun cv17 => ?_)
        · have tcv17 := eqT cv17
          refine lv_iload_n hx hb dX10_advance_78 rfl (lv_at hl 0 rfl) ?_
          refine lv_bipush (v := 34) hx hb dX10_advance_79 (by decide) ?_
          refine lv_icmp_ne (tgt := 91) hx hb dX10_advance_81 (by decide) (fun cv18 => ?_) (fun cv18 => ?_)
          · have tcv18 := eqF cv18
            refine lv_aload_n hx hb dX10_advance_91 rfl (lv_at hl 1 rfl) ?_
            refine lv_aload_n hx hb dX10_advance_92 rfl (lv_at hl 1 rfl) ?_
            refine r_get (ci := 10) (k := 1) (v := .int (mI (pI Sa 1003 h0 xv5) 1001 h0)) C hM kh0 f_X10_7 rfl dX10_advance_93 ?_
            refine lv_topi (fun xv19 exv19 => ?_)
            have gxv19 : xv19 = xv1 := exv19.trans (exv1.symm)
            have hxv19 : xv19.toInt = xv1.toInt := by rw [gxv19]
            refine lv_aload_n hx hb dX10_advance_96 rfl (lv_at hl 1 rfl) ?_
            refine r_get (ci := 10) (k := 0) (v := .ref qv2) C hM kh0 f_X10_32 (congrArg va_rf (eqv2)) dX10_advance_97 ?_
            refine r_getN (ci := 9) (k := 1) (v := .int (mI (pI Sa 1003 h0 xv5) 901 qv2)) C hM kqv2 f_X10_36 rfl dX10_advance_100 ?_
            refine lv_topi (fun xv20 exv20 => ?_)
            have fxv20 := NI.f901 hI.2 kqv2
            rw [← exv20] at fxv20
            have gxv20 : xv20 = xv3 := exv20.trans (exv3.symm)
            have hxv20 : xv20.toInt = xv3.toInt := by rw [gxv20]
            refine lv_icmp_lt (tgt := 110) hx hb dX10_advance_103 (by decide) (fun cv21 => ?_) (fun cv21 => ?_)
            · have tcv21 := ltT cv21
              refine lv_iload_n hx hb dX10_advance_110 rfl (lv_at hl 0 rfl) ?_
              refine r_S (As := [.int xv10]) (rest := [.ref h0]) C hM (c_X10_signToken l D H0 (pI Sa 1003 h0 xv5) kc ns xv10) i_X10_signToken m_X10_58 rfl hl.1 rfl (Nat.le_of_ble_eq_true rfl) ⟨by decide, by decide⟩ ⟨by decide, by decide⟩ dX10_advance_111 (fun xv25 Sv22 kv23 nv24 H locs pv26 hM => ?_)
              obtain ⟨rfl, rfl, rfl, hxv25⟩ := pv26
              refine W.eq (g2 := F0 m 114 ls [.int xv25, .ref h0]) rfl ?_
              refine r_put C hM kh0 f_X10_13 (fun r h => by cases h; rfl) rfl rfl (mPut.I (ci := 10) (k := 2) rfl) dX10_advance_114 (fun H locs hM => ?_)
              have hM : mH D H0 (pI (pI Sa 1003 h0 xv5) 1002 h0 xv25) kc ns H locs := hM
              have hI := hI.fe (fEq.I (S := (pI Sa 1003 h0 xv5)) (f := 1002) (a := h0) (v := xv25) (by decide))
              have hF := hF.trans (fEq.I (S := (pI Sa 1003 h0 xv5)) (f := 1002) (a := h0) (v := xv25) (by decide))
              refine lv_aload_n hx hb dX10_advance_117 rfl (lv_at hl 1 rfl) ?_
              refine lv_dup hx hb dX10_advance_118 rfl ?_
              refine r_get (ci := 10) (k := 1) (v := .int (mI (pI (pI Sa 1003 h0 xv5) 1002 h0 xv25) 1001 h0)) C hM kh0 f_X10_7 rfl dX10_advance_119 ?_
              refine lv_topi (fun xv27 exv27 => ?_)
              have gxv27 : xv27 = xv1 := exv27.trans (exv1.symm)
              have hxv27 : xv27.toInt = xv1.toInt := by rw [gxv27]
              refine lv_iconst (v := 1) hx hb dX10_advance_122 (by decide) ?_
              refine lv_iadd hx hb dX10_advance_123 ?_
              refine lv_topi (fun xv28 exv28 => ?_)
              try (have txv28 := addI (a := xv27) (b := 1) (by omega) (by omega); rw [← exv28] at txv28)
              refine r_put C hM kh0 f_X10_7 (fun r h => by cases h; rfl) rfl rfl (mPut.I (ci := 10) (k := 1) rfl) dX10_advance_124 (fun H locs hM => ?_)
              have hM : mH D H0 (pI (pI (pI Sa 1003 h0 xv5) 1002 h0 xv25) 1001 h0 xv28) kc ns H locs := hM
              have hI := hI.fe (fEq.I (S := (pI (pI Sa 1003 h0 xv5) 1002 h0 xv25)) (f := 1001) (a := h0) (v := xv28) (by decide))
              have hF := hF.trans (fEq.I (S := (pI (pI Sa 1003 h0 xv5) 1002 h0 xv25)) (f := 1001) (a := h0) (v := xv28) (by decide))
              exact r_retV C hr hlk hM (⟨rfl, rfl, hF, trivial⟩) dX10_advance_127
            · have tcv21 := ltF cv21
              refine lv_iconst (v := 0) hx hb dX10_advance_106 (by decide) ?_
              refine lv_goto (tgt := 114) hx hb dX10_advance_107 (by decide) ?_
              refine r_put C hM kh0 f_X10_13 (fun r h => by cases h; rfl) rfl rfl (mPut.I (ci := 10) (k := 2) rfl) dX10_advance_114 (fun H locs hM => ?_)
              have hM : mH D H0 (pI (pI Sa 1003 h0 xv5) 1002 h0 0) kc ns H locs := hM
              have hI := hI.fe (fEq.I (S := (pI Sa 1003 h0 xv5)) (f := 1002) (a := h0) (v := 0) (by decide))
              have hF := hF.trans (fEq.I (S := (pI Sa 1003 h0 xv5)) (f := 1002) (a := h0) (v := 0) (by decide))
              refine lv_aload_n hx hb dX10_advance_117 rfl (lv_at hl 1 rfl) ?_
              refine lv_dup hx hb dX10_advance_118 rfl ?_
              refine r_get (ci := 10) (k := 1) (v := .int (mI (pI (pI Sa 1003 h0 xv5) 1002 h0 0) 1001 h0)) C hM kh0 f_X10_7 rfl dX10_advance_119 ?_
              refine lv_topi (fun xv29 exv29 => ?_)
              have gxv29 : xv29 = xv1 := exv29.trans (exv1.symm)
              have hxv29 : xv29.toInt = xv1.toInt := by rw [gxv29]
              refine lv_iconst (v := 1) hx hb dX10_advance_122 (by decide) ?_
              refine lv_iadd hx hb dX10_advance_123 ?_
              refine lv_topi (fun xv30 exv30 => ?_)
              try (have txv30 := addI (a := xv29) (b := 1) (by omega) (by omega); rw [← exv30] at txv30)
              refine r_put C hM kh0 f_X10_7 (fun r h => by cases h; rfl) rfl rfl (mPut.I (ci := 10) (k := 1) rfl) dX10_advance_124 (fun H locs hM => ?_)
              have hM : mH D H0 (pI (pI (pI Sa 1003 h0 xv5) 1002 h0 0) 1001 h0 xv30) kc ns H locs := hM
              have hI := hI.fe (fEq.I (S := (pI (pI Sa 1003 h0 xv5) 1002 h0 0)) (f := 1001) (a := h0) (v := xv30) (by decide))
              have hF := hF.trans (fEq.I (S := (pI (pI Sa 1003 h0 xv5) 1002 h0 0)) (f := 1001) (a := h0) (v := xv30) (by decide))
              exact r_retV C hr hlk hM (⟨rfl, rfl, hF, trivial⟩) dX10_advance_127
          · have tcv18 := eqT cv18
            refine lv_aload_n hx hb dX10_advance_84 rfl (lv_at hl 1 rfl) ?_
            refine r_V (As := []) (rest := []) (ci := 10) C hM (c_X10_takeText l D H0 (pI Sa 1003 h0 xv5) kc ns h0 hI kh0) i_X10_takeText m_X10_55 kh0 rfl rfl rfl hl.1 rfl (Nat.le_of_ble_eq_true rfl) ⟨by decide, by decide⟩ ⟨by decide, by decide⟩ dX10_advance_85 (fun uv34 Sv31 kv32 nv33 H locs pv35 hM => ?_)
            obtain ⟨rfl, rfl, hf9, huv34⟩ := pv35
            have hF := hF.trans hf9
            have hI := hI.fe hf9
            have kh0 : mK Sv31 h0 = 11 := (congrFun (hf9.1) h0).trans kh0
            have kqv2 : mK Sv31 qv2 = 10 := (congrFun (hf9.1) qv2).trans kqv2
            have vv36 : mR Sv31 1000 h0 = some qv2 := (congrFun (congrFun hf9.2.1 1000) h0).trans (eqv2)
            refine W.eq (g2 := F0 m 88 ls []) rfl ?_
            refine lv_goto (tgt := 127) hx hb dX10_advance_88 (by decide) ?_
            exact r_retV C hr hlk hM (⟨rfl, rfl, hF, trivial⟩) dX10_advance_127
        · have tcv17 := eqF cv17
          refine lv_aload_n hx hb dX10_advance_71 rfl (lv_at hl 1 rfl) ?_
          refine r_V (As := []) (rest := []) (ci := 10) C hM (c_X10_takeWord l D H0 (pI Sa 1003 h0 xv5) kc ns h0 hI kh0) i_X10_takeWord m_X10_52 kh0 rfl rfl rfl hl.1 rfl (Nat.le_of_ble_eq_true rfl) ⟨by decide, by decide⟩ ⟨by decide, by decide⟩ dX10_advance_72 (fun uv40 Sv37 kv38 nv39 H locs pv41 hM => ?_)
          obtain ⟨rfl, rfl, hf9, huv40⟩ := pv41
          have hF := hF.trans hf9
          have hI := hI.fe hf9
          have kh0 : mK Sv37 h0 = 11 := (congrFun (hf9.1) h0).trans kh0
          have kqv2 : mK Sv37 qv2 = 10 := (congrFun (hf9.1) qv2).trans kqv2
          have vv42 : mR Sv37 1000 h0 = some qv2 := (congrFun (congrFun hf9.2.1 1000) h0).trans (eqv2)
          refine W.eq (g2 := F0 m 75 ls []) rfl ?_
          refine lv_goto (tgt := 127) hx hb dX10_advance_75 (by decide) ?_
          exact r_retV C hr hlk hM (⟨rfl, rfl, hF, trivial⟩) dX10_advance_127
      · have tcv4 := leF cv4
        refine lv_aload_n hx hb dX10_advance_14 rfl (lv_at hl 0 rfl) ?_
        refine r_get (ci := 10) (k := 0) (v := .ref qv2) C hM kh0 f_X10_32 (congrArg va_rf (eqv2)) dX10_advance_15 ?_
        refine lv_aload_n hx hb dX10_advance_18 rfl (lv_at hl 0 rfl) ?_
        refine r_get (ci := 10) (k := 1) (v := .int (mI Sa 1001 h0)) C hM kh0 f_X10_7 rfl dX10_advance_19 ?_
        refine lv_topi (fun xv43 exv43 => ?_)
        have gxv43 : xv43 = xv1 := exv43.trans (exv1.symm)
        have hxv43 : xv43.toInt = xv1.toInt := by rw [gxv43]
        refine r_VN (As := [.int xv43]) (rest := []) (ci := 9) C hM (c_X9_byteAt l D H0 Sa kc ns qv2 xv43 hI kqv2) i_X9_byteAt m_X10_41 kqv2 rfl rfl rfl hl.1 rfl (Nat.le_of_ble_eq_true rfl) ⟨by decide, by decide⟩ ⟨by decide, by decide⟩ dX10_advance_22 (fun xv47 Sv44 kv45 nv46 H locs pv48 hM => ?_)
        obtain ⟨rfl, rfl, rfl, hxv47⟩ := pv48
        refine W.eq (g2 := F0 m 25 ls [.int xv47]) rfl ?_
        refine r_S (As := [.int xv47]) (rest := []) C hM (c_X10_isBlank l D H0 Sa kc ns xv47) i_X10_isBlank m_X10_45 rfl hl.1 rfl (Nat.le_of_ble_eq_true rfl) ⟨by decide, by decide⟩ ⟨by decide, by decide⟩ dX10_advance_25 (fun xv52 Sv49 kv50 nv51 H locs pv53 hM => ?_)
        obtain ⟨rfl, rfl, rfl, hxv52⟩ := pv53
        refine W.eq (g2 := F0 m 28 ls [.int xv52]) rfl ?_
        refine lv_if_eq (tgt := 44) hx hb dX10_advance_28 (by decide) (fun cv54 => ?_) (fun cv54 => ?_)
        · have tcv54 := eqT cv54
          refine lv_aload_n hx hb dX10_advance_44 rfl (lv_at hl 0 rfl) ?_
          refine lv_aload_n hx hb dX10_advance_45 rfl (lv_at hl 0 rfl) ?_
          refine r_get (ci := 10) (k := 1) (v := .int (mI Sa 1001 h0)) C hM kh0 f_X10_7 rfl dX10_advance_46 ?_
          refine lv_topi (fun xv55 exv55 => ?_)
          have gxv55 : xv55 = xv1 := exv55.trans (exv1.symm)
          have hxv55 : xv55.toInt = xv1.toInt := by rw [gxv55]
          refine r_put C hM kh0 f_X10_16 (fun r h => by cases h; rfl) rfl rfl (mPut.I (ci := 10) (k := 3) rfl) dX10_advance_49 (fun H locs hM => ?_)
          have hM : mH D H0 (pI Sa 1003 h0 xv55) kc ns H locs := hM
          have hI := hI.fe (fEq.I (S := Sa) (f := 1003) (a := h0) (v := xv55) (by decide))
          have hF := hF.trans (fEq.I (S := Sa) (f := 1003) (a := h0) (v := xv55) (by decide))
          refine lv_aload_n hx hb dX10_advance_52 rfl (lv_at hl 0 rfl) ?_
          refine r_get (ci := 10) (k := 0) (v := .ref qv2) C hM kh0 f_X10_32 (congrArg va_rf (eqv2)) dX10_advance_53 ?_
          refine lv_aload_n hx hb dX10_advance_56 rfl (lv_at hl 0 rfl) ?_
          refine r_get (ci := 10) (k := 1) (v := .int (mI (pI Sa 1003 h0 xv55) 1001 h0)) C hM kh0 f_X10_7 rfl dX10_advance_57 ?_
          refine lv_topi (fun xv56 exv56 => ?_)
          have gxv56 : xv56 = xv1 := exv56.trans (exv1.symm)
          have hxv56 : xv56.toInt = xv1.toInt := by rw [gxv56]
          refine r_VN (As := [.int xv56]) (rest := []) (ci := 9) C hM (c_X9_byteAt l D H0 (pI Sa 1003 h0 xv55) kc ns qv2 xv56 hI kqv2) i_X9_byteAt m_X10_41 kqv2 rfl rfl rfl hl.1 rfl (Nat.le_of_ble_eq_true rfl) ⟨by decide, by decide⟩ ⟨by decide, by decide⟩ dX10_advance_60 (fun xv60 Sv57 kv58 nv59 H locs pv61 hM => ?_)
          obtain ⟨rfl, rfl, rfl, hxv60⟩ := pv61
          refine W.eq (g2 := F0 m 63 ls [.int xv60]) rfl ?_
          refine lv_istore_n (lv' := [(1, .int xv60), (0, .ref h0)]) hx hb dX10_advance_63 rfl hl (by decide) rfl (fun ls hl => ?_)
          refine lv_iload_n hx hb dX10_advance_64 rfl (lv_at hl 0 rfl) ?_
          refine r_S (As := [.int xv60]) (rest := []) C hM (c_X10_isLetter l D H0 (pI Sa 1003 h0 xv55) kc ns xv60) i_X10_isLetter m_X10_49 rfl hl.1 rfl (Nat.le_of_ble_eq_true rfl) ⟨by decide, by decide⟩ ⟨by decide, by decide⟩ dX10_advance_65 (fun xv65 Sv62 kv63 nv64 H locs pv66 hM => ?_)
          obtain ⟨rfl, rfl, rfl, hxv65⟩ := pv66
          refine W.eq (g2 := F0 m 68 ls [.int xv65]) rfl ?_
          refine lv_if_eq (tgt := 78) hx hb dX10_advance_68 (by decide) (fun cv67 => ?_) (fun cv67 => ?_)
          · have tcv67 := eqT cv67
            refine lv_iload_n hx hb dX10_advance_78 rfl (lv_at hl 0 rfl) ?_
            refine lv_bipush (v := 34) hx hb dX10_advance_79 (by decide) ?_
            refine lv_icmp_ne (tgt := 91) hx hb dX10_advance_81 (by decide) (fun cv68 => ?_) (fun cv68 => ?_)
            · have tcv68 := eqF cv68
              refine lv_aload_n hx hb dX10_advance_91 rfl (lv_at hl 1 rfl) ?_
              refine lv_aload_n hx hb dX10_advance_92 rfl (lv_at hl 1 rfl) ?_
              refine r_get (ci := 10) (k := 1) (v := .int (mI (pI Sa 1003 h0 xv55) 1001 h0)) C hM kh0 f_X10_7 rfl dX10_advance_93 ?_
              refine lv_topi (fun xv69 exv69 => ?_)
              have gxv69 : xv69 = xv1 := exv69.trans (exv1.symm)
              have hxv69 : xv69.toInt = xv1.toInt := by rw [gxv69]
              refine lv_aload_n hx hb dX10_advance_96 rfl (lv_at hl 1 rfl) ?_
              refine r_get (ci := 10) (k := 0) (v := .ref qv2) C hM kh0 f_X10_32 (congrArg va_rf (eqv2)) dX10_advance_97 ?_
              refine r_getN (ci := 9) (k := 1) (v := .int (mI (pI Sa 1003 h0 xv55) 901 qv2)) C hM kqv2 f_X10_36 rfl dX10_advance_100 ?_
              refine lv_topi (fun xv70 exv70 => ?_)
              have fxv70 := NI.f901 hI.2 kqv2
              rw [← exv70] at fxv70
              have gxv70 : xv70 = xv3 := exv70.trans (exv3.symm)
              have hxv70 : xv70.toInt = xv3.toInt := by rw [gxv70]
              refine lv_icmp_lt (tgt := 110) hx hb dX10_advance_103 (by decide) (fun cv71 => ?_) (fun cv71 => ?_)
              · have tcv71 := ltT cv71
                refine lv_iload_n hx hb dX10_advance_110 rfl (lv_at hl 0 rfl) ?_
                refine r_S (As := [.int xv60]) (rest := [.ref h0]) C hM (c_X10_signToken l D H0 (pI Sa 1003 h0 xv55) kc ns xv60) i_X10_signToken m_X10_58 rfl hl.1 rfl (Nat.le_of_ble_eq_true rfl) ⟨by decide, by decide⟩ ⟨by decide, by decide⟩ dX10_advance_111 (fun xv75 Sv72 kv73 nv74 H locs pv76 hM => ?_)
                obtain ⟨rfl, rfl, rfl, hxv75⟩ := pv76
                refine W.eq (g2 := F0 m 114 ls [.int xv75, .ref h0]) rfl ?_
                refine r_put C hM kh0 f_X10_13 (fun r h => by cases h; rfl) rfl rfl (mPut.I (ci := 10) (k := 2) rfl) dX10_advance_114 (fun H locs hM => ?_)
                have hM : mH D H0 (pI (pI Sa 1003 h0 xv55) 1002 h0 xv75) kc ns H locs := hM
                have hI := hI.fe (fEq.I (S := (pI Sa 1003 h0 xv55)) (f := 1002) (a := h0) (v := xv75) (by decide))
                have hF := hF.trans (fEq.I (S := (pI Sa 1003 h0 xv55)) (f := 1002) (a := h0) (v := xv75) (by decide))
                refine lv_aload_n hx hb dX10_advance_117 rfl (lv_at hl 1 rfl) ?_
                refine lv_dup hx hb dX10_advance_118 rfl ?_
                refine r_get (ci := 10) (k := 1) (v := .int (mI (pI (pI Sa 1003 h0 xv55) 1002 h0 xv75) 1001 h0)) C hM kh0 f_X10_7 rfl dX10_advance_119 ?_
                refine lv_topi (fun xv77 exv77 => ?_)
                have gxv77 : xv77 = xv1 := exv77.trans (exv1.symm)
                have hxv77 : xv77.toInt = xv1.toInt := by rw [gxv77]
                refine lv_iconst (v := 1) hx hb dX10_advance_122 (by decide) ?_
                refine lv_iadd hx hb dX10_advance_123 ?_
                refine lv_topi (fun xv78 exv78 => ?_)
                try (have txv78 := addI (a := xv77) (b := 1) (by omega) (by omega); rw [← exv78] at txv78)
                refine r_put C hM kh0 f_X10_7 (fun r h => by cases h; rfl) rfl rfl (mPut.I (ci := 10) (k := 1) rfl) dX10_advance_124 (fun H locs hM => ?_)
                have hM : mH D H0 (pI (pI (pI Sa 1003 h0 xv55) 1002 h0 xv75) 1001 h0 xv78) kc ns H locs := hM
                have hI := hI.fe (fEq.I (S := (pI (pI Sa 1003 h0 xv55) 1002 h0 xv75)) (f := 1001) (a := h0) (v := xv78) (by decide))
                have hF := hF.trans (fEq.I (S := (pI (pI Sa 1003 h0 xv55) 1002 h0 xv75)) (f := 1001) (a := h0) (v := xv78) (by decide))
                exact r_retV C hr hlk hM (⟨rfl, rfl, hF, trivial⟩) dX10_advance_127
              · have tcv71 := ltF cv71
                refine lv_iconst (v := 0) hx hb dX10_advance_106 (by decide) ?_
                refine lv_goto (tgt := 114) hx hb dX10_advance_107 (by decide) ?_
                refine r_put C hM kh0 f_X10_13 (fun r h => by cases h; rfl) rfl rfl (mPut.I (ci := 10) (k := 2) rfl) dX10_advance_114 (fun H locs hM => ?_)
                have hM : mH D H0 (pI (pI Sa 1003 h0 xv55) 1002 h0 0) kc ns H locs := hM
                have hI := hI.fe (fEq.I (S := (pI Sa 1003 h0 xv55)) (f := 1002) (a := h0) (v := 0) (by decide))
                have hF := hF.trans (fEq.I (S := (pI Sa 1003 h0 xv55)) (f := 1002) (a := h0) (v := 0) (by decide))
                refine lv_aload_n hx hb dX10_advance_117 rfl (lv_at hl 1 rfl) ?_
                refine lv_dup hx hb dX10_advance_118 rfl ?_
                refine r_get (ci := 10) (k := 1) (v := .int (mI (pI (pI Sa 1003 h0 xv55) 1002 h0 0) 1001 h0)) C hM kh0 f_X10_7 rfl dX10_advance_119 ?_
                refine lv_topi (fun xv79 exv79 => ?_)
                have gxv79 : xv79 = xv1 := exv79.trans (exv1.symm)
                have hxv79 : xv79.toInt = xv1.toInt := by rw [gxv79]
                refine lv_iconst (v := 1) hx hb dX10_advance_122 (by decide) ?_
                refine lv_iadd hx hb dX10_advance_123 ?_
                refine lv_topi (fun xv80 exv80 => ?_)
                try (have txv80 := addI (a := xv79) (b := 1) (by omega) (by omega); rw [← exv80] at txv80)
                refine r_put C hM kh0 f_X10_7 (fun r h => by cases h; rfl) rfl rfl (mPut.I (ci := 10) (k := 1) rfl) dX10_advance_124 (fun H locs hM => ?_)
                have hM : mH D H0 (pI (pI (pI Sa 1003 h0 xv55) 1002 h0 0) 1001 h0 xv80) kc ns H locs := hM
                have hI := hI.fe (fEq.I (S := (pI (pI Sa 1003 h0 xv55) 1002 h0 0)) (f := 1001) (a := h0) (v := xv80) (by decide))
                have hF := hF.trans (fEq.I (S := (pI (pI Sa 1003 h0 xv55) 1002 h0 0)) (f := 1001) (a := h0) (v := xv80) (by decide))
                exact r_retV C hr hlk hM (⟨rfl, rfl, hF, trivial⟩) dX10_advance_127
            · have tcv68 := eqT cv68
              refine lv_aload_n hx hb dX10_advance_84 rfl (lv_at hl 1 rfl) ?_
              refine r_V (As := []) (rest := []) (ci := 10) C hM (c_X10_takeText l D H0 (pI Sa 1003 h0 xv55) kc ns h0 hI kh0) i_X10_takeText m_X10_55 kh0 rfl rfl rfl hl.1 rfl (Nat.le_of_ble_eq_true rfl) ⟨by decide, by decide⟩ ⟨by decide, by decide⟩ dX10_advance_85 (fun uv84 Sv81 kv82 nv83 H locs pv85 hM => ?_)
              obtain ⟨rfl, rfl, hf9, huv84⟩ := pv85
              have hF := hF.trans hf9
              have hI := hI.fe hf9
              have kh0 : mK Sv81 h0 = 11 := (congrFun (hf9.1) h0).trans kh0
              have kqv2 : mK Sv81 qv2 = 10 := (congrFun (hf9.1) qv2).trans kqv2
              have vv86 : mR Sv81 1000 h0 = some qv2 := (congrFun (congrFun hf9.2.1 1000) h0).trans (eqv2)
              refine W.eq (g2 := F0 m 88 ls []) rfl ?_
              refine lv_goto (tgt := 127) hx hb dX10_advance_88 (by decide) ?_
              exact r_retV C hr hlk hM (⟨rfl, rfl, hF, trivial⟩) dX10_advance_127
          · have tcv67 := eqF cv67
            refine lv_aload_n hx hb dX10_advance_71 rfl (lv_at hl 1 rfl) ?_
            refine r_V (As := []) (rest := []) (ci := 10) C hM (c_X10_takeWord l D H0 (pI Sa 1003 h0 xv55) kc ns h0 hI kh0) i_X10_takeWord m_X10_52 kh0 rfl rfl rfl hl.1 rfl (Nat.le_of_ble_eq_true rfl) ⟨by decide, by decide⟩ ⟨by decide, by decide⟩ dX10_advance_72 (fun uv90 Sv87 kv88 nv89 H locs pv91 hM => ?_)
            obtain ⟨rfl, rfl, hf9, huv90⟩ := pv91
            have hF := hF.trans hf9
            have hI := hI.fe hf9
            have kh0 : mK Sv87 h0 = 11 := (congrFun (hf9.1) h0).trans kh0
            have kqv2 : mK Sv87 qv2 = 10 := (congrFun (hf9.1) qv2).trans kqv2
            have vv92 : mR Sv87 1000 h0 = some qv2 := (congrFun (congrFun hf9.2.1 1000) h0).trans (eqv2)
            refine W.eq (g2 := F0 m 75 ls []) rfl ?_
            refine lv_goto (tgt := 127) hx hb dX10_advance_75 (by decide) ?_
            exact r_retV C hr hlk hM (⟨rfl, rfl, hF, trivial⟩) dX10_advance_127
        · have tcv54 := eqF cv54
          refine lv_aload_n hx hb dX10_advance_31 rfl (lv_at hl 0 rfl) ?_
          refine lv_dup hx hb dX10_advance_32 rfl ?_
          refine r_get (ci := 10) (k := 1) (v := .int (mI Sa 1001 h0)) C hM kh0 f_X10_7 rfl dX10_advance_33 ?_
          refine lv_topi (fun xv93 exv93 => ?_)
          have gxv93 : xv93 = xv1 := exv93.trans (exv1.symm)
          have hxv93 : xv93.toInt = xv1.toInt := by rw [gxv93]
          refine lv_iconst (v := 1) hx hb dX10_advance_36 (by decide) ?_
          refine lv_iadd hx hb dX10_advance_37 ?_
          refine lv_topi (fun xv94 exv94 => ?_)
          try (have txv94 := addI (a := xv93) (b := 1) (by omega) (by omega); rw [← exv94] at txv94)
          refine r_put C hM kh0 f_X10_7 (fun r h => by cases h; rfl) rfl rfl (mPut.I (ci := 10) (k := 1) rfl) dX10_advance_38 (fun H locs hM => ?_)
          have hM : mH D H0 (pI Sa 1001 h0 xv94) kc ns H locs := hM
          have hI := hI.fe (fEq.I (S := Sa) (f := 1001) (a := h0) (v := xv94) (by decide))
          have hF := hF.trans (fEq.I (S := Sa) (f := 1001) (a := h0) (v := xv94) (by decide))
          refine lv_goto (tgt := 0) hx hb dX10_advance_41 (by decide) ?_
          have h91 : (mI (pI Sa 1001 h0 xv94) 1001 h0).toInt = (mI Sa 1001 h0).toInt + 1 := by rw [show mI (pI Sa 1001 h0 xv94) 1001 h0 = _ from up2_eq]; have h90 := rngI (mI Sa 1001 h0); subst_vars; exact addI (by omega) (by omega)
          have h92 : (mI Sa 1001 h0).toInt < 1600 := by subst_vars; omega
          exact ih0 (pI Sa 1001 h0 xv94) _ _ _ (hF) (by omega) (lv_sub hl [0] rfl) hM
  exact loop0 (((1601 - (mI S 1001 h0).toInt).toNat) + 1) S _ _ _ (hF) (by omega) (lv_sub hl [0] rfl) hM
