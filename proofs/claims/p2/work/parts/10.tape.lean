set_option maxHeartbeats 4000000 in
set_option maxRecDepth 100000 in
theorem c_X9_byteAt (l : Launch) (D : gD) (H0 : Heap) (S : Mem) (kc ns : Nat) (h0 : Nat) (i0 : Int32) {u : Nat} {tl : Int} {rho : Nat} (hI : CI x0 u tl rho S) (kh0 : mK S h0 = 10) : Met l yX9_byteAt (wsU yX9_byteAt cX9_byteAt 2 (some .int)) ({ frames := 0, cells := 0, slots := 0, locals := 0 } : Room) (mP D H0 S kc ns [.ref h0, .int i0]) (mQ D H0 gI (fun r S1 k1 n1 => S = S1 ∧ kc = k1 ∧ ns = n1 ∧ True)) 0 0 (mF H0) := by
  refine r_met (own := RX9) (by decide +kernel) rfl (Nat.le_of_ble_eq_true rfl) ?_
  intro p e s m args below meth c C hr hlk hnm H ls hl hM
  obtain ⟨hx, hb, hml, hown, hts, -, -⟩ := id C
  have hl : lv_has ls 2 [(0, .ref h0), (1, .int i0)] := hl
  have t_m1 : (-1 : Int32).toInt = -1 := by decide
  have t_0 : (0 : Int32).toInt = 0 := by decide
  have t_255 : (255 : Int32).toInt = 255 := by decide
  refine lv_iload_n hx hb dX9_byteAt_0 rfl (lv_at hl 1 rfl) ?_
  refine lv_if_lt (tgt := 12) hx hb dX9_byteAt_1 (by decide) (fun c1 => ?_) (fun c1 => ?_)
  · have tc1 := ltT c1
    refine lv_iconst (v := -1) hx hb dX9_byteAt_12 (by decide) ?_
    refine lv_goto (tgt := 26) hx hb dX9_byteAt_13 (by decide) ?_
    exact r_retI C hr hlk hM (⟨rfl, rfl, rfl, trivial⟩) dX9_byteAt_26
  · have tc1 := ltF c1
    refine lv_iload_n hx hb dX9_byteAt_4 rfl (lv_at hl 1 rfl) ?_
    refine lv_aload_n hx hb dX9_byteAt_5 rfl (lv_at hl 0 rfl) ?_
    refine r_get (ci := 9) (k := 1) (v := .int (mI S 901 h0)) C hM kh0 f_X9_15 rfl dX9_byteAt_6 ?_
    refine lv_topi (fun x2 ex2 => ?_)
    have fx2 := NI.f901 hI.2 kh0
    rw [← ex2] at fx2
    refine lv_icmp_lt (tgt := 16) hx hb dX9_byteAt_9 (by decide) (fun c3 => ?_) (fun c3 => ?_)
    · have tc3 := ltT c3
      refine lv_aload_n hx hb dX9_byteAt_16 rfl (lv_at hl 0 rfl) ?_
      obtain ⟨q4, eq4, kq4, nq4⟩ := TI.nn hI.1 (ci := 9) (k := 0) kh0
      refine r_get (ci := 9) (k := 0) (v := .ref q4) C hM kh0 f_X9_9 (congrArg va_rf eq4) dX9_byteAt_17 ?_
      refine lv_iload_n hx hb dX9_byteAt_20 rfl (lv_at hl 1 rfl) ?_
      refine r_bald C hM kq4 (inI (by omega) (by rw [nq4 (by decide)]; show _ < (1600 : Int); omega)) dX9_byteAt_21 ?_
      refine lv_topi (fun x5 ex5 => ?_)
      refine lv_sipush (v := 255) hx hb dX9_byteAt_22 (by decide) ?_
      refine lv_iand hx hb dX9_byteAt_25 ?_
      refine lv_topi (fun x6 ex6 => ?_)
      exact r_retI C hr hlk hM (⟨rfl, rfl, rfl, trivial⟩) dX9_byteAt_26
    · have tc3 := ltF c3
      refine lv_iconst (v := -1) hx hb dX9_byteAt_12 (by decide) ?_
      refine lv_goto (tgt := 26) hx hb dX9_byteAt_13 (by decide) ?_
      exact r_retI C hr hlk hM (⟨rfl, rfl, rfl, trivial⟩) dX9_byteAt_26
set_option maxHeartbeats 4000000 in
set_option maxRecDepth 100000 in
theorem c_X10_isBlank (l : Launch) (D : gD) (H0 : Heap) (S : Mem) (kc ns : Nat) (i0 : Int32) : Met l yX10_isBlank (wsU yX10_isBlank cX10_isBlank 1 (some .boolean)) ({ frames := 0, cells := 0, slots := 0, locals := 0 } : Room) (mP D H0 S kc ns [.int i0]) (mQ D H0 gI (fun r S1 k1 n1 => S = S1 ∧ kc = k1 ∧ ns = n1 ∧ (r = 0 ∨ r = 1))) 0 0 (mF H0) := by
  refine r_met (own := RX10) (by decide +kernel) rfl (Nat.le_of_ble_eq_true rfl) ?_
  intro p e s m args below meth c C hr hlk hnm H ls hl hM
  obtain ⟨hx, hb, hml, hown, hts, -, -⟩ := id C
  have hl : lv_has ls 1 [(0, .int i0)] := hl
  have t_0 : (0 : Int32).toInt = 0 := by decide
  have t_1 : (1 : Int32).toInt = 1 := by decide
  have t_10 : (10 : Int32).toInt = 10 := by decide
  have t_32 : (32 : Int32).toInt = 32 := by decide
  refine lv_iload_n hx hb dX10_isBlank_0 rfl (lv_at hl 0 rfl) ?_
  refine lv_bipush (v := 32) hx hb dX10_isBlank_1 (by decide) ?_
  refine lv_icmp_eq (tgt := 12) hx hb dX10_isBlank_3 (by decide) (fun c1 => ?_) (fun c1 => ?_)
  · have tc1 := eqT c1
    refine lv_iconst (v := 1) hx hb dX10_isBlank_12 (by decide) ?_
    refine lv_goto (tgt := 17) hx hb dX10_isBlank_13 (by decide) ?_
    exact r_retZ C hr hlk rfl hM (⟨rfl, rfl, rfl, by decide⟩) dX10_isBlank_17
  · have tc1 := eqF c1
    refine lv_iload_n hx hb dX10_isBlank_6 rfl (lv_at hl 0 rfl) ?_
    refine lv_bipush (v := 10) hx hb dX10_isBlank_7 (by decide) ?_
    refine lv_icmp_ne (tgt := 16) hx hb dX10_isBlank_9 (by decide) (fun c2 => ?_) (fun c2 => ?_)
    · have tc2 := eqF c2
      refine lv_iconst (v := 0) hx hb dX10_isBlank_16 (by decide) ?_
      exact r_retZ C hr hlk rfl hM (⟨rfl, rfl, rfl, by decide⟩) dX10_isBlank_17
    · have tc2 := eqT c2
      refine lv_iconst (v := 1) hx hb dX10_isBlank_12 (by decide) ?_
      refine lv_goto (tgt := 17) hx hb dX10_isBlank_13 (by decide) ?_
      exact r_retZ C hr hlk rfl hM (⟨rfl, rfl, rfl, by decide⟩) dX10_isBlank_17
set_option maxHeartbeats 4000000 in
set_option maxRecDepth 100000 in
theorem c_X10_isLetter (l : Launch) (D : gD) (H0 : Heap) (S : Mem) (kc ns : Nat) (i0 : Int32) : Met l yX10_isLetter (wsU yX10_isLetter cX10_isLetter 1 (some .boolean)) ({ frames := 0, cells := 0, slots := 0, locals := 0 } : Room) (mP D H0 S kc ns [.int i0]) (mQ D H0 gI (fun r S1 k1 n1 => S = S1 ∧ kc = k1 ∧ ns = n1 ∧ (r = 0 ∨ r = 1))) 0 0 (mF H0) := by
  refine r_met (own := RX10) (by decide +kernel) rfl (Nat.le_of_ble_eq_true rfl) ?_
  intro p e s m args below meth c C hr hlk hnm H ls hl hM
  obtain ⟨hx, hb, hml, hown, hts, -, -⟩ := id C
  have hl : lv_has ls 1 [(0, .int i0)] := hl
  have t_0 : (0 : Int32).toInt = 0 := by decide
  have t_1 : (1 : Int32).toInt = 1 := by decide
  have t_97 : (97 : Int32).toInt = 97 := by decide
  have t_122 : (122 : Int32).toInt = 122 := by decide
  refine lv_iload_n hx hb dX10_isLetter_0 rfl (lv_at hl 0 rfl) ?_
  refine lv_bipush (v := 97) hx hb dX10_isLetter_1 (by decide) ?_
  refine lv_icmp_lt (tgt := 16) hx hb dX10_isLetter_3 (by decide) (fun c1 => ?_) (fun c1 => ?_)
  · have tc1 := ltT c1
    refine lv_iconst (v := 0) hx hb dX10_isLetter_16 (by decide) ?_
    exact r_retZ C hr hlk rfl hM (⟨rfl, rfl, rfl, by decide⟩) dX10_isLetter_17
  · have tc1 := ltF c1
    refine lv_iload_n hx hb dX10_isLetter_6 rfl (lv_at hl 0 rfl) ?_
    refine lv_bipush (v := 122) hx hb dX10_isLetter_7 (by decide) ?_
    refine lv_icmp_gt (tgt := 16) hx hb dX10_isLetter_9 (by decide) (fun c2 => ?_) (fun c2 => ?_)
    · have tc2 := ltT c2
      refine lv_iconst (v := 0) hx hb dX10_isLetter_16 (by decide) ?_
      exact r_retZ C hr hlk rfl hM (⟨rfl, rfl, rfl, by decide⟩) dX10_isLetter_17
    · have tc2 := ltF c2
      refine lv_iconst (v := 1) hx hb dX10_isLetter_12 (by decide) ?_
      refine lv_goto (tgt := 17) hx hb dX10_isLetter_13 (by decide) ?_
      exact r_retZ C hr hlk rfl hM (⟨rfl, rfl, rfl, by decide⟩) dX10_isLetter_17
set_option maxHeartbeats 4000000 in
set_option maxRecDepth 100000 in
theorem c_X10_isTextByte (l : Launch) (D : gD) (H0 : Heap) (S : Mem) (kc ns : Nat) (i0 : Int32) : Met l yX10_isTextByte (wsU yX10_isTextByte cX10_isTextByte 1 (some .boolean)) ({ frames := 0, cells := 0, slots := 0, locals := 0 } : Room) (mP D H0 S kc ns [.int i0]) (mQ D H0 gI (fun r S1 k1 n1 => S = S1 ∧ kc = k1 ∧ ns = n1 ∧ (r = 0 ∨ r = 1))) 0 0 (mF H0) := by
  refine r_met (own := RX10) (by decide +kernel) rfl (Nat.le_of_ble_eq_true rfl) ?_
  intro p e s m args below meth c C hr hlk hnm H ls hl hM
  obtain ⟨hx, hb, hml, hown, hts, -, -⟩ := id C
  have hl : lv_has ls 1 [(0, .int i0)] := hl
  have t_0 : (0 : Int32).toInt = 0 := by decide
  have t_1 : (1 : Int32).toInt = 1 := by decide
  have t_32 : (32 : Int32).toInt = 32 := by decide
  have t_34 : (34 : Int32).toInt = 34 := by decide
  have t_126 : (126 : Int32).toInt = 126 := by decide
  refine lv_iload_n hx hb dX10_isTextByte_0 rfl (lv_at hl 0 rfl) ?_
  refine lv_bipush (v := 32) hx hb dX10_isTextByte_1 (by decide) ?_
  refine lv_icmp_lt (tgt := 22) hx hb dX10_isTextByte_3 (by decide) (fun c1 => ?_) (fun c1 => ?_)
  · have tc1 := ltT c1
    refine lv_iconst (v := 0) hx hb dX10_isTextByte_22 (by decide) ?_
    exact r_retZ C hr hlk rfl hM (⟨rfl, rfl, rfl, by decide⟩) dX10_isTextByte_23
  · have tc1 := ltF c1
    refine lv_iload_n hx hb dX10_isTextByte_6 rfl (lv_at hl 0 rfl) ?_
    refine lv_bipush (v := 126) hx hb dX10_isTextByte_7 (by decide) ?_
    refine lv_icmp_gt (tgt := 22) hx hb dX10_isTextByte_9 (by decide) (fun c2 => ?_) (fun c2 => ?_)
    · have tc2 := ltT c2
      refine lv_iconst (v := 0) hx hb dX10_isTextByte_22 (by decide) ?_
      exact r_retZ C hr hlk rfl hM (⟨rfl, rfl, rfl, by decide⟩) dX10_isTextByte_23
    · have tc2 := ltF c2
      refine lv_iload_n hx hb dX10_isTextByte_12 rfl (lv_at hl 0 rfl) ?_
      refine lv_bipush (v := 34) hx hb dX10_isTextByte_13 (by decide) ?_
      refine lv_icmp_eq (tgt := 22) hx hb dX10_isTextByte_15 (by decide) (fun c3 => ?_) (fun c3 => ?_)
      · have tc3 := eqT c3
        refine lv_iconst (v := 0) hx hb dX10_isTextByte_22 (by decide) ?_
        exact r_retZ C hr hlk rfl hM (⟨rfl, rfl, rfl, by decide⟩) dX10_isTextByte_23
      · have tc3 := eqF c3
        refine lv_iconst (v := 1) hx hb dX10_isTextByte_18 (by decide) ?_
        refine lv_goto (tgt := 23) hx hb dX10_isTextByte_19 (by decide) ?_
        exact r_retZ C hr hlk rfl hM (⟨rfl, rfl, rfl, by decide⟩) dX10_isTextByte_23
set_option maxHeartbeats 4000000 in
set_option maxRecDepth 100000 in
theorem c_X10_signToken (l : Launch) (D : gD) (H0 : Heap) (S : Mem) (kc ns : Nat) (i0 : Int32) : Met l yX10_signToken (wsU yX10_signToken cX10_signToken 1 (some .int)) ({ frames := 0, cells := 0, slots := 0, locals := 0 } : Room) (mP D H0 S kc ns [.int i0]) (mQ D H0 gI (fun r S1 k1 n1 => S = S1 ∧ kc = k1 ∧ ns = n1 ∧ True)) 0 0 (mF H0) := by
  refine r_met (own := RX10) (by decide +kernel) rfl (Nat.le_of_ble_eq_true rfl) ?_
  intro p e s m args below meth c C hr hlk hnm H ls hl hM
  obtain ⟨hx, hb, hml, hown, hts, -, -⟩ := id C
  have hl : lv_has ls 1 [(0, .int i0)] := hl
  have t_0 : (0 : Int32).toInt = 0 := by decide
  have t_3 : (3 : Int32).toInt = 3 := by decide
  have t_4 : (4 : Int32).toInt = 4 := by decide
  have t_5 : (5 : Int32).toInt = 5 := by decide
  have t_6 : (6 : Int32).toInt = 6 := by decide
  have t_7 : (7 : Int32).toInt = 7 := by decide
  refine lv_iload_n hx hb dX10_signToken_0 rfl (lv_at hl 0 rfl) ?_
  by_cases h1_0 : i0.toInt = 33
  · refine lv_tableIn (off := 53) (tgt := 54) hx hb dX10_signToken_1 (by omega) (by omega) (by rw [h1_0]; rfl) (by decide) ?_
    refine lv_iconst (v := 4) hx hb dX10_signToken_54 (by decide) ?_
    exact r_retI C hr hlk hM (⟨rfl, rfl, rfl, trivial⟩) dX10_signToken_55
  by_cases h1_1 : i0.toInt = 34
  · refine lv_tableIn (off := 60) (tgt := 61) hx hb dX10_signToken_1 (by omega) (by omega) (by rw [h1_1]; rfl) (by decide) ?_
    refine lv_bipush (v := 7) hx hb dX10_signToken_61 (by decide) ?_
    exact r_retI C hr hlk hM (⟨rfl, rfl, rfl, trivial⟩) dX10_signToken_63
  by_cases h1_2 : i0.toInt = 35
  · refine lv_tableIn (off := 51) (tgt := 52) hx hb dX10_signToken_1 (by omega) (by omega) (by rw [h1_2]; rfl) (by decide) ?_
    refine lv_iconst (v := 3) hx hb dX10_signToken_52 (by decide) ?_
    exact r_retI C hr hlk hM (⟨rfl, rfl, rfl, trivial⟩) dX10_signToken_53
  by_cases h1_3 : i0.toInt = 36
  · refine lv_tableIn (off := 60) (tgt := 61) hx hb dX10_signToken_1 (by omega) (by omega) (by rw [h1_3]; rfl) (by decide) ?_
    refine lv_bipush (v := 7) hx hb dX10_signToken_61 (by decide) ?_
    exact r_retI C hr hlk hM (⟨rfl, rfl, rfl, trivial⟩) dX10_signToken_63
  by_cases h1_4 : i0.toInt = 37
  · refine lv_tableIn (off := 60) (tgt := 61) hx hb dX10_signToken_1 (by omega) (by omega) (by rw [h1_4]; rfl) (by decide) ?_
    refine lv_bipush (v := 7) hx hb dX10_signToken_61 (by decide) ?_
    exact r_retI C hr hlk hM (⟨rfl, rfl, rfl, trivial⟩) dX10_signToken_63
  by_cases h1_5 : i0.toInt = 38
  · refine lv_tableIn (off := 60) (tgt := 61) hx hb dX10_signToken_1 (by omega) (by omega) (by rw [h1_5]; rfl) (by decide) ?_
    refine lv_bipush (v := 7) hx hb dX10_signToken_61 (by decide) ?_
    exact r_retI C hr hlk hM (⟨rfl, rfl, rfl, trivial⟩) dX10_signToken_63
  by_cases h1_6 : i0.toInt = 39
  · refine lv_tableIn (off := 60) (tgt := 61) hx hb dX10_signToken_1 (by omega) (by omega) (by rw [h1_6]; rfl) (by decide) ?_
    refine lv_bipush (v := 7) hx hb dX10_signToken_61 (by decide) ?_
    exact r_retI C hr hlk hM (⟨rfl, rfl, rfl, trivial⟩) dX10_signToken_63
  by_cases h1_7 : i0.toInt = 40
  · refine lv_tableIn (off := 55) (tgt := 56) hx hb dX10_signToken_1 (by omega) (by omega) (by rw [h1_7]; rfl) (by decide) ?_
    refine lv_iconst (v := 5) hx hb dX10_signToken_56 (by decide) ?_
    exact r_retI C hr hlk hM (⟨rfl, rfl, rfl, trivial⟩) dX10_signToken_57
  by_cases h1_8 : i0.toInt = 41
  · refine lv_tableIn (off := 57) (tgt := 58) hx hb dX10_signToken_1 (by omega) (by omega) (by rw [h1_8]; rfl) (by decide) ?_
    refine lv_bipush (v := 6) hx hb dX10_signToken_58 (by decide) ?_
    exact r_retI C hr hlk hM (⟨rfl, rfl, rfl, trivial⟩) dX10_signToken_60
  refine lv_tableOut (tgt := 61) hx hb dX10_signToken_1 (by omega) (by decide) ?_
  refine lv_bipush (v := 7) hx hb dX10_signToken_61 (by decide) ?_
  exact r_retI C hr hlk hM (⟨rfl, rfl, rfl, trivial⟩) dX10_signToken_63
set_option maxHeartbeats 4000000 in
set_option maxRecDepth 100000 in
theorem c_X10_rewind (l : Launch) (D : gD) (H0 : Heap) (S : Mem) (kc ns : Nat) (h0 : Nat) {u : Nat} {tl : Int} {rho : Nat} (hI : CI x0 u tl rho S) (kh0 : mK S h0 = 11) : Met l yX10_rewind (wsU yX10_rewind cX10_rewind 1 none) ({ frames := 0, cells := 0, slots := 0, locals := 0 } : Room) (mP D H0 S kc ns [.ref h0]) (mQ D H0 gV (fun r S1 k1 n1 => kc = k1 ∧ ns = n1 ∧ fEq S S1 ∧ True)) 0 0 (mF H0) := by
  refine r_met (own := RX10) (by decide +kernel) rfl (Nat.le_of_ble_eq_true rfl) ?_
  intro p e s m args below meth c C hr hlk hnm H ls hl hM
  obtain ⟨hx, hb, hml, hown, hts, -, -⟩ := id C
  have hl : lv_has ls 1 [(0, .ref h0)] := hl
  have hI0 := hI
  have hF : fEq S S := fEq.rf
  have t_0 : (0 : Int32).toInt = 0 := by decide
  refine lv_aload_n hx hb dX10_rewind_0 rfl (lv_at hl 0 rfl) ?_
  refine lv_iconst (v := 0) hx hb dX10_rewind_1 (by decide) ?_
  refine r_put C hM kh0 f_X10_7 (fun r h => by cases h; rfl) rfl rfl (mPut.I (ci := 10) (k := 1) rfl) dX10_rewind_2 (fun H locs hM => ?_)
  have hM : mH D H0 (pI S 1001 h0 0) kc ns H locs := hM
  have hI := hI.fe (fEq.I (S := S) (f := 1001) (a := h0) (v := 0) (by decide))
  have hF := hF.trans (fEq.I (S := S) (f := 1001) (a := h0) (v := 0) (by decide))
  exact r_retV C hr hlk hM (⟨rfl, rfl, hF, trivial⟩) dX10_rewind_5
set_option maxHeartbeats 4000000 in
set_option maxRecDepth 100000 in
theorem c_X10_putTextByte (l : Launch) (D : gD) (H0 : Heap) (S : Mem) (kc ns : Nat) (h0 : Nat) (i0 : Int32) {u : Nat} {tl : Int} {rho : Nat} (hI : CI x0 u tl rho S) (kh0 : mK S h0 = 11) : Met l yX10_putTextByte (wsU yX10_putTextByte cX10_putTextByte 2 none) ({ frames := 0, cells := 0, slots := 0, locals := 0 } : Room) (mP D H0 S kc ns [.ref h0, .int i0]) (mQ D H0 gV (fun r S1 k1 n1 => kc = k1 ∧ ns = n1 ∧ fEq S S1 ∧ True)) 0 0 (mF H0) := by
  refine r_met (own := RX10) (by decide +kernel) rfl (Nat.le_of_ble_eq_true rfl) ?_
  intro p e s m args below meth c C hr hlk hnm H ls hl hM
  obtain ⟨hx, hb, hml, hown, hts, -, -⟩ := id C
  have hl : lv_has ls 2 [(0, .ref h0), (1, .int i0)] := hl
  have hI0 := hI
  have hF : fEq S S := fEq.rf
  have t_0 : (0 : Int32).toInt = 0 := by decide
  have t_1 : (1 : Int32).toInt = 1 := by decide
  have t_8 : (8 : Int32).toInt = 8 := by decide
  refine lv_aload_n hx hb dX10_putTextByte_0 rfl (lv_at hl 0 rfl) ?_
  refine r_get (ci := 10) (k := 7) (v := .int (mI S 1007 h0)) C hM kh0 f_X10_29 rfl dX10_putTextByte_1 ?_
  refine lv_topi (fun x1 ex1 => ?_)
  refine lv_bipush (v := 8) hx hb dX10_putTextByte_4 (by decide) ?_
  refine lv_icmp_ge (tgt := 31) hx hb dX10_putTextByte_6 (by decide) (fun c2 => ?_) (fun c2 => ?_)
  · have tc2 := leT c2
    refine lv_aload_n hx hb dX10_putTextByte_31 rfl (lv_at hl 0 rfl) ?_
    refine lv_dup hx hb dX10_putTextByte_32 rfl ?_
    refine r_get (ci := 10) (k := 6) (v := .long (mL S 1006 h0)) C hM kh0 f_X10_26 rfl dX10_putTextByte_33 ?_
    refine lv_topl (fun l3 el3 => ?_)
    refine lv_iload_n hx hb dX10_putTextByte_36 rfl (lv_at hl 1 rfl) ?_
    refine lv_i2l hx hb dX10_putTextByte_37 rfl ?_
    refine lv_topl (fun l4 el4 => ?_)
    refine lv_bipush (v := 8) hx hb dX10_putTextByte_38 (by decide) ?_
    refine lv_aload_n hx hb dX10_putTextByte_40 rfl (lv_at hl 0 rfl) ?_
    refine r_get (ci := 10) (k := 7) (v := .int (mI S 1007 h0)) C hM kh0 f_X10_29 rfl dX10_putTextByte_41 ?_
    refine lv_topi (fun x5 ex5 => ?_)
    have gx5 : x5 = x1 := ex5.trans (ex1.symm)
    have hx5 : x5.toInt = x1.toInt := by rw [gx5]
    refine lv_bipush (v := 8) hx hb dX10_putTextByte_44 (by decide) ?_
    refine lv_isub hx hb dX10_putTextByte_46 ?_
    refine lv_topi (fun x6 ex6 => ?_)
    try (have tx6 := subI (a := x5) (b := 8) (by omega) (by omega); rw [← ex6] at tx6)
    refine lv_imul hx hb dX10_putTextByte_47 ?_
    refine lv_topi (fun x7 ex7 => ?_)
    try (have tx7 := mulD (a := x6) (k := 8) (n := 8) (by decide) (by omega) (by omega); rw [← ex7] at tx7)
    refine lv_lshl hx hb dX10_putTextByte_48 rfl ?_
    refine lv_topl (fun l8 el8 => ?_)
    refine lv_lor hx hb dX10_putTextByte_49 ?_
    refine lv_topl (fun l9 el9 => ?_)
    refine r_put C hM kh0 f_X10_26 (fun r h => by cases h; rfl) rfl rfl (mPut.L (ci := 10) (k := 6) rfl) dX10_putTextByte_50 (fun H locs hM => ?_)
    have hM : mH D H0 (pL S 1006 h0 l9) kc ns H locs := hM
    have hI := hI.fe (fEq.L (S := S) (f := 1006) (a := h0) (v := l9))
    have hF := hF.trans (fEq.L (S := S) (f := 1006) (a := h0) (v := l9))
    refine lv_aload_n hx hb dX10_putTextByte_53 rfl (lv_at hl 0 rfl) ?_
    refine lv_dup hx hb dX10_putTextByte_54 rfl ?_
    refine r_get (ci := 10) (k := 7) (v := .int (mI (pL S 1006 h0 l9) 1007 h0)) C hM kh0 f_X10_29 rfl dX10_putTextByte_55 ?_
    refine lv_topi (fun x10 ex10 => ?_)
    have gx10 : x10 = x1 := ex10.trans (ex1.symm)
    have hx10 : x10.toInt = x1.toInt := by rw [gx10]
    refine lv_iconst (v := 1) hx hb dX10_putTextByte_58 (by decide) ?_
    refine lv_iadd hx hb dX10_putTextByte_59 ?_
    refine lv_topi (fun x11 ex11 => ?_)
    try (have tx11 := addI (a := x10) (b := 1) (by omega) (by omega); rw [← ex11] at tx11)
    refine r_put C hM kh0 f_X10_29 (fun r h => by cases h; rfl) rfl rfl (mPut.I (ci := 10) (k := 7) rfl) dX10_putTextByte_60 (fun H locs hM => ?_)
    have hM : mH D H0 (pI (pL S 1006 h0 l9) 1007 h0 x11) kc ns H locs := hM
    have hI := hI.fe (fEq.I (S := (pL S 1006 h0 l9)) (f := 1007) (a := h0) (v := x11) (by decide))
    have hF := hF.trans (fEq.I (S := (pL S 1006 h0 l9)) (f := 1007) (a := h0) (v := x11) (by decide))
    exact r_retV C hr hlk hM (⟨rfl, rfl, hF, trivial⟩) dX10_putTextByte_63
  · have tc2 := leF c2
    refine lv_aload_n hx hb dX10_putTextByte_9 rfl (lv_at hl 0 rfl) ?_
    refine lv_dup hx hb dX10_putTextByte_10 rfl ?_
    refine r_get (ci := 10) (k := 5) (v := .long (mL S 1005 h0)) C hM kh0 f_X10_23 rfl dX10_putTextByte_11 ?_
    refine lv_topl (fun l12 el12 => ?_)
    refine lv_iload_n hx hb dX10_putTextByte_14 rfl (lv_at hl 1 rfl) ?_
    refine lv_i2l hx hb dX10_putTextByte_15 rfl ?_
    refine lv_topl (fun l13 el13 => ?_)
    refine lv_bipush (v := 8) hx hb dX10_putTextByte_16 (by decide) ?_
    refine lv_aload_n hx hb dX10_putTextByte_18 rfl (lv_at hl 0 rfl) ?_
    refine r_get (ci := 10) (k := 7) (v := .int (mI S 1007 h0)) C hM kh0 f_X10_29 rfl dX10_putTextByte_19 ?_
    refine lv_topi (fun x14 ex14 => ?_)
    have gx14 : x14 = x1 := ex14.trans (ex1.symm)
    have hx14 : x14.toInt = x1.toInt := by rw [gx14]
    refine lv_imul hx hb dX10_putTextByte_22 ?_
    refine lv_topi (fun x15 ex15 => ?_)
    try (have tx15 := mulD (a := x14) (k := 8) (n := 8) (by decide) (by omega) (by omega); rw [← ex15] at tx15)
    refine lv_lshl hx hb dX10_putTextByte_23 rfl ?_
    refine lv_topl (fun l16 el16 => ?_)
    refine lv_lor hx hb dX10_putTextByte_24 ?_
    refine lv_topl (fun l17 el17 => ?_)
    refine r_put C hM kh0 f_X10_23 (fun r h => by cases h; rfl) rfl rfl (mPut.L (ci := 10) (k := 5) rfl) dX10_putTextByte_25 (fun H locs hM => ?_)
    have hM : mH D H0 (pL S 1005 h0 l17) kc ns H locs := hM
    have hI := hI.fe (fEq.L (S := S) (f := 1005) (a := h0) (v := l17))
    have hF := hF.trans (fEq.L (S := S) (f := 1005) (a := h0) (v := l17))
    refine lv_goto (tgt := 53) hx hb dX10_putTextByte_28 (by decide) ?_
    refine lv_aload_n hx hb dX10_putTextByte_53 rfl (lv_at hl 0 rfl) ?_
    refine lv_dup hx hb dX10_putTextByte_54 rfl ?_
    refine r_get (ci := 10) (k := 7) (v := .int (mI (pL S 1005 h0 l17) 1007 h0)) C hM kh0 f_X10_29 rfl dX10_putTextByte_55 ?_
    refine lv_topi (fun x18 ex18 => ?_)
    have gx18 : x18 = x1 := ex18.trans (ex1.symm)
    have hx18 : x18.toInt = x1.toInt := by rw [gx18]
    refine lv_iconst (v := 1) hx hb dX10_putTextByte_58 (by decide) ?_
    refine lv_iadd hx hb dX10_putTextByte_59 ?_
    refine lv_topi (fun x19 ex19 => ?_)
    try (have tx19 := addI (a := x18) (b := 1) (by omega) (by omega); rw [← ex19] at tx19)
    refine r_put C hM kh0 f_X10_29 (fun r h => by cases h; rfl) rfl rfl (mPut.I (ci := 10) (k := 7) rfl) dX10_putTextByte_60 (fun H locs hM => ?_)
    have hM : mH D H0 (pI (pL S 1005 h0 l17) 1007 h0 x19) kc ns H locs := hM
    have hI := hI.fe (fEq.I (S := (pL S 1005 h0 l17)) (f := 1007) (a := h0) (v := x19) (by decide))
    have hF := hF.trans (fEq.I (S := (pL S 1005 h0 l17)) (f := 1007) (a := h0) (v := x19) (by decide))
    exact r_retV C hr hlk hM (⟨rfl, rfl, hF, trivial⟩) dX10_putTextByte_63
set_option maxHeartbeats 4000000 in
set_option maxRecDepth 100000 in
theorem c_X10_takeWord (l : Launch) (D : gD) (H0 : Heap) (S : Mem) (kc ns : Nat) (h0 : Nat) {u : Nat} {tl : Int} {rho : Nat} (hI : CI x0 u tl rho S) (kh0 : mK S h0 = 11) : Met l yX10_takeWord (wsU yX10_takeWord cX10_takeWord 2 none) ({ frames := 1, cells := 0, slots := 0, locals := 21 } : Room) (mP D H0 S kc ns [.ref h0]) (mQ D H0 gV (fun r S1 k1 n1 => kc = k1 ∧ ns = n1 ∧ fEq S S1 ∧ True)) 0 0 (mF H0) := by
  refine r_met (own := RX10) (by decide +kernel) rfl (Nat.le_of_ble_eq_true rfl) ?_
  intro p e s m args below meth c C hr hlk hnm H ls hl hM
  obtain ⟨hx, hb, hml, hown, hts, -, -⟩ := id C
  have hl : lv_has ls 2 [(0, .ref h0)] := hl
  have hI0 := hI
  have hF : fEq S S := fEq.rf
  have t_0 : (0 : Int32).toInt = 0 := by decide
  have t_1 : (1 : Int32).toInt = 1 := by decide
  have t_5 : (5 : Int32).toInt = 5 := by decide
  have t_8 : (8 : Int32).toInt = 8 := by decide
  have t_96 : (96 : Int32).toInt = 96 := by decide
  refine lv_aload_n hx hb dX10_takeWord_0 rfl (lv_at hl 0 rfl) ?_
  refine lv_iconst (v := 1) hx hb dX10_takeWord_1 (by decide) ?_
  refine r_put C hM kh0 f_X10_13 (fun r h => by cases h; rfl) rfl rfl (mPut.I (ci := 10) (k := 2) rfl) dX10_takeWord_2 (fun H locs hM => ?_)
  have hM : mH D H0 (pI S 1002 h0 1) kc ns H locs := hM
  have hI := hI.fe (fEq.I (S := S) (f := 1002) (a := h0) (v := 1) (by decide))
  have hF := hF.trans (fEq.I (S := S) (f := 1002) (a := h0) (v := 1) (by decide))
  refine lv_aload_n hx hb dX10_takeWord_5 rfl (lv_at hl 0 rfl) ?_
  refine lv_lconst (v := 0) hx hb dX10_takeWord_6 (by decide) ?_
  refine r_put C hM kh0 f_X10_19 (fun r h => by cases h; rfl) rfl rfl (mPut.L (ci := 10) (k := 4) rfl) dX10_takeWord_7 (fun H locs hM => ?_)
  have hM : mH D H0 (pL (pI S 1002 h0 1) 1004 h0 0) kc ns H locs := hM
  have hI := hI.fe (fEq.L (S := (pI S 1002 h0 1)) (f := 1004) (a := h0) (v := 0))
  have hF := hF.trans (fEq.L (S := (pI S 1002 h0 1)) (f := 1004) (a := h0) (v := 0))
  refine lv_iconst (v := 0) hx hb dX10_takeWord_10 (by decide) ?_
  refine lv_istore_n (lv' := [(1, .int 0), (0, .ref h0)]) hx hb dX10_takeWord_11 rfl hl (by decide) rfl (fun ls hl => ?_)
  have hFa12 := hF
  have loop12 : ∀ (fu : Nat) (j : Int32) (Sa : Mem) (H : Heap) (locs : List Loc) (ls : Array Slot), (fEq S Sa) → (0 ≤ j.toInt) → (8 - j.toInt).toNat < fu → lv_has ls 2 [(0, .ref h0), (1, .int j)] → mH D H0 Sa kc ns H locs → W p l e ({ frames := 1, cells := 0, slots := 0, locals := 21 } : Room) s m args below meth c H locs 0 0 (MQ below (mQ D H0 gV (fun r S1 k1 n1 => kc = k1 ∧ ns = n1 ∧ fEq S S1 ∧ True)) args s 0 0 (mF H0)) (F0 m 12 ls []) := by
    intro fu
    induction fu with
    | zero => intro j Sa H locs ls h12_0 h12_1 hfu; exact absurd hfu (by omega)
    | succ fu ih12 =>
      intro j Sa H locs ls h12_0 h12_1 hfu hl hM
      have hF := h12_0
      have hI := hI0.fe hF
      have kh0 : mK Sa h0 = 11 := (congrFun (hF.1.trans hFa12.1.symm) h0).trans kh0
      refine lv_iload_n hx hb dX10_takeWord_12 rfl (lv_at hl 1 rfl) ?_
      refine lv_bipush (v := 8) hx hb dX10_takeWord_13 (by decide) ?_
      refine lv_icmp_ge (tgt := 79) hx hb dX10_takeWord_15 (by decide) (fun c1 => ?_) (fun c1 => ?_)
      · have tc1 := leT c1
        exact r_retV C hr hlk hM (⟨rfl, rfl, hF, trivial⟩) dX10_takeWord_79
      · have tc1 := leF c1
        refine lv_aload_n hx hb dX10_takeWord_18 rfl (lv_at hl 0 rfl) ?_
        obtain ⟨q2, eq2, kq2, nq2⟩ := TI.nn hI.1 (ci := 10) (k := 0) kh0
        refine r_get (ci := 10) (k := 0) (v := .ref q2) C hM kh0 f_X10_32 (congrArg va_rf eq2) dX10_takeWord_19 ?_
        refine lv_aload_n hx hb dX10_takeWord_22 rfl (lv_at hl 0 rfl) ?_
        refine r_get (ci := 10) (k := 1) (v := .int (mI Sa 1001 h0)) C hM kh0 f_X10_7 rfl dX10_takeWord_23 ?_
        refine lv_topi (fun x3 ex3 => ?_)
        refine r_VN (As := [.int x3]) (rest := []) (ci := 9) C hM (c_X9_byteAt l D H0 Sa kc ns q2 x3 hI kq2) i_X9_byteAt m_X10_41 kq2 rfl rfl rfl hl.1 rfl (Nat.le_of_ble_eq_true rfl) ⟨by decide, by decide⟩ ⟨by decide, by decide⟩ dX10_takeWord_26 (fun x7 S4 k5 n6 H locs p8 hM => ?_)
        obtain ⟨rfl, rfl, rfl, hx7⟩ := p8
        refine W.eq (g2 := F0 m 29 ls [.int x7]) rfl ?_
        refine r_S (As := [.int x7]) (rest := []) C hM (c_X10_isLetter l D H0 Sa kc ns x7) i_X10_isLetter m_X10_49 rfl hl.1 rfl (Nat.le_of_ble_eq_true rfl) ⟨by decide, by decide⟩ ⟨by decide, by decide⟩ dX10_takeWord_29 (fun x12 S9 k10 n11 H locs p13 hM => ?_)
        obtain ⟨rfl, rfl, rfl, hx12⟩ := p13
        refine W.eq (g2 := F0 m 32 ls [.int x12]) rfl ?_
        refine lv_if_eq (tgt := 79) hx hb dX10_takeWord_32 (by decide) (fun c14 => ?_) (fun c14 => ?_)
        · have tc14 := eqT c14
          exact r_retV C hr hlk hM (⟨rfl, rfl, hF, trivial⟩) dX10_takeWord_79
        · have tc14 := eqF c14
          refine lv_aload_n hx hb dX10_takeWord_35 rfl (lv_at hl 0 rfl) ?_
          refine lv_dup hx hb dX10_takeWord_36 rfl ?_
          refine r_get (ci := 10) (k := 4) (v := .long (mL Sa 1004 h0)) C hM kh0 f_X10_19 rfl dX10_takeWord_37 ?_
          refine lv_topl (fun l15 el15 => ?_)
          refine lv_aload_n hx hb dX10_takeWord_40 rfl (lv_at hl 0 rfl) ?_
          refine r_get (ci := 10) (k := 0) (v := .ref q2) C hM kh0 f_X10_32 (congrArg va_rf (eq2)) dX10_takeWord_41 ?_
          refine lv_aload_n hx hb dX10_takeWord_44 rfl (lv_at hl 0 rfl) ?_
          refine r_get (ci := 10) (k := 1) (v := .int (mI Sa 1001 h0)) C hM kh0 f_X10_7 rfl dX10_takeWord_45 ?_
          refine lv_topi (fun x16 ex16 => ?_)
          have gx16 : x16 = x3 := ex16.trans (ex3.symm)
          have hx16 : x16.toInt = x3.toInt := by rw [gx16]
          refine r_VN (As := [.int x16]) (rest := [.long l15, .ref h0]) (ci := 9) C hM (c_X9_byteAt l D H0 Sa kc ns q2 x16 hI kq2) i_X9_byteAt m_X10_41 kq2 rfl rfl rfl hl.1 rfl (Nat.le_of_ble_eq_true rfl) ⟨by decide, by decide⟩ ⟨by decide, by decide⟩ dX10_takeWord_48 (fun x20 S17 k18 n19 H locs p21 hM => ?_)
          obtain ⟨rfl, rfl, rfl, hx20⟩ := p21
          refine W.eq (g2 := F0 m 51 ls [.int x20, .long l15, .ref h0]) rfl ?_
          refine lv_bipush (v := 96) hx hb dX10_takeWord_51 (by decide) ?_
          refine lv_isub hx hb dX10_takeWord_53 ?_
          refine lv_topi (fun x22 ex22 => ?_)
          try (have tx22 := subI (a := x20) (b := 96) (by omega) (by omega); rw [← ex22] at tx22)
          refine lv_i2l hx hb dX10_takeWord_54 rfl ?_
          refine lv_topl (fun l23 el23 => ?_)
          refine lv_iload_n hx hb dX10_takeWord_55 rfl (lv_at hl 1 rfl) ?_
          refine lv_iconst (v := 5) hx hb dX10_takeWord_56 (by decide) ?_
          refine lv_imul hx hb dX10_takeWord_57 ?_
          refine lv_topi (fun x24 ex24 => ?_)
          try (have tx24 := mulC (a := j) (k := 5) (n := 5) (by decide) (by omega) (by omega); rw [← ex24] at tx24)
          refine lv_lshl hx hb dX10_takeWord_58 rfl ?_
          refine lv_topl (fun l25 el25 => ?_)
          refine lv_lor hx hb dX10_takeWord_59 ?_
          refine lv_topl (fun l26 el26 => ?_)
          refine r_put C hM kh0 f_X10_19 (fun r h => by cases h; rfl) rfl rfl (mPut.L (ci := 10) (k := 4) rfl) dX10_takeWord_60 (fun H locs hM => ?_)
          have hM : mH D H0 (pL Sa 1004 h0 l26) kc ns H locs := hM
          have hI := hI.fe (fEq.L (S := Sa) (f := 1004) (a := h0) (v := l26))
          have hF := hF.trans (fEq.L (S := Sa) (f := 1004) (a := h0) (v := l26))
          refine lv_aload_n hx hb dX10_takeWord_63 rfl (lv_at hl 0 rfl) ?_
          refine lv_dup hx hb dX10_takeWord_64 rfl ?_
          refine r_get (ci := 10) (k := 1) (v := .int (mI (pL Sa 1004 h0 l26) 1001 h0)) C hM kh0 f_X10_7 rfl dX10_takeWord_65 ?_
          refine lv_topi (fun x27 ex27 => ?_)
          have gx27 : x27 = x3 := ex27.trans (ex3.symm)
          have hx27 : x27.toInt = x3.toInt := by rw [gx27]
          refine lv_iconst (v := 1) hx hb dX10_takeWord_68 (by decide) ?_
          refine lv_iadd hx hb dX10_takeWord_69 ?_
          refine lv_topi (fun x28 ex28 => ?_)
          try (have tx28 := addI (a := x27) (b := 1) (by omega) (by omega); rw [← ex28] at tx28)
          refine r_put C hM kh0 f_X10_7 (fun r h => by cases h; rfl) rfl rfl (mPut.I (ci := 10) (k := 1) rfl) dX10_takeWord_70 (fun H locs hM => ?_)
          have hM : mH D H0 (pI (pL Sa 1004 h0 l26) 1001 h0 x28) kc ns H locs := hM
          have hI := hI.fe (fEq.I (S := (pL Sa 1004 h0 l26)) (f := 1001) (a := h0) (v := x28) (by decide))
          have hF := hF.trans (fEq.I (S := (pL Sa 1004 h0 l26)) (f := 1001) (a := h0) (v := x28) (by decide))
          obtain ⟨x29, ex29⟩ : ∃ y : Int32, y = j + 1 := ⟨_, rfl⟩
          try (have tx29 := addI (a := j) (b := 1) (by omega) (by omega); rw [← ex29] at tx29)
          refine lv_iinc (v := x29) (lv' := [(1, .int x29), (0, .ref h0)]) hx hb dX10_takeWord_73 hl (k := 1) rfl (by rw [ex29]; rfl) (by decide) rfl (fun ls hl => ?_)
          refine lv_goto (tgt := 12) hx hb dX10_takeWord_76 (by decide) ?_
          exact ih12 x29 (pI (pL Sa 1004 h0 l26) 1001 h0 x28) _ _ _ (hF) (by omega) (by omega) (lv_sub hl [1, 0] rfl) hM
  exact loop12 (((8 - (0 : Int32).toInt).toNat) + 1) 0 (pL (pI S 1002 h0 1) 1004 h0 0) _ _ _ (hF) (by omega) (by omega) (lv_sub hl [1, 0] rfl) hM
set_option maxHeartbeats 4000000 in
set_option maxRecDepth 100000 in
theorem c_X10_takeText (l : Launch) (D : gD) (H0 : Heap) (S : Mem) (kc ns : Nat) (h0 : Nat) {u : Nat} {tl : Int} {rho : Nat} (hI : CI x0 u tl rho S) (kh0 : mK S h0 = 11) : Met l yX10_takeText (wsU yX10_takeText cX10_takeText 2 none) ({ frames := 1, cells := 0, slots := 0, locals := 21 } : Room) (mP D H0 S kc ns [.ref h0]) (mQ D H0 gV (fun r S1 k1 n1 => kc = k1 ∧ ns = n1 ∧ fEq S S1 ∧ True)) 0 0 (mF H0) := by
  refine r_met (own := RX10) (by decide +kernel) rfl (Nat.le_of_ble_eq_true rfl) ?_
  intro p e s m args below meth c C hr hlk hnm H ls hl hM
  obtain ⟨hx, hb, hml, hown, hts, -, -⟩ := id C
  have hl : lv_has ls 2 [(0, .ref h0)] := hl
  have hI0 := hI
  have hF : fEq S S := fEq.rf
  have t_0 : (0 : Int32).toInt = 0 := by decide
  have t_1 : (1 : Int32).toInt = 1 := by decide
  have t_2 : (2 : Int32).toInt = 2 := by decide
  have t_7 : (7 : Int32).toInt = 7 := by decide
  have t_16 : (16 : Int32).toInt = 16 := by decide
  have t_34 : (34 : Int32).toInt = 34 := by decide
  refine lv_aload_n hx hb dX10_takeText_0 rfl (lv_at hl 0 rfl) ?_
  refine lv_dup hx hb dX10_takeText_1 rfl ?_
  refine r_get (ci := 10) (k := 1) (v := .int (mI S 1001 h0)) C hM kh0 f_X10_7 rfl dX10_takeText_2 ?_
  refine lv_topi (fun x1 ex1 => ?_)
  refine lv_iconst (v := 1) hx hb dX10_takeText_5 (by decide) ?_
  refine lv_iadd hx hb dX10_takeText_6 ?_
  refine lv_topi (fun x2 ex2 => ?_)
  try (have tx2 := addI (a := x1) (b := 1) (by omega) (by omega); rw [← ex2] at tx2)
  refine r_put C hM kh0 f_X10_7 (fun r h => by cases h; rfl) rfl rfl (mPut.I (ci := 10) (k := 1) rfl) dX10_takeText_7 (fun H locs hM => ?_)
  have hM : mH D H0 (pI S 1001 h0 x2) kc ns H locs := hM
  have hI := hI.fe (fEq.I (S := S) (f := 1001) (a := h0) (v := x2) (by decide))
  have hF := hF.trans (fEq.I (S := S) (f := 1001) (a := h0) (v := x2) (by decide))
  refine lv_aload_n hx hb dX10_takeText_10 rfl (lv_at hl 0 rfl) ?_
  refine lv_lconst (v := 0) hx hb dX10_takeText_11 (by decide) ?_
  refine r_put C hM kh0 f_X10_23 (fun r h => by cases h; rfl) rfl rfl (mPut.L (ci := 10) (k := 5) rfl) dX10_takeText_12 (fun H locs hM => ?_)
  have hM : mH D H0 (pL (pI S 1001 h0 x2) 1005 h0 0) kc ns H locs := hM
  have hI := hI.fe (fEq.L (S := (pI S 1001 h0 x2)) (f := 1005) (a := h0) (v := 0))
  have hF := hF.trans (fEq.L (S := (pI S 1001 h0 x2)) (f := 1005) (a := h0) (v := 0))
  refine lv_aload_n hx hb dX10_takeText_15 rfl (lv_at hl 0 rfl) ?_
  refine lv_lconst (v := 0) hx hb dX10_takeText_16 (by decide) ?_
  refine r_put C hM kh0 f_X10_26 (fun r h => by cases h; rfl) rfl rfl (mPut.L (ci := 10) (k := 6) rfl) dX10_takeText_17 (fun H locs hM => ?_)
  have hM : mH D H0 (pL (pL (pI S 1001 h0 x2) 1005 h0 0) 1006 h0 0) kc ns H locs := hM
  have hI := hI.fe (fEq.L (S := (pL (pI S 1001 h0 x2) 1005 h0 0)) (f := 1006) (a := h0) (v := 0))
  have hF := hF.trans (fEq.L (S := (pL (pI S 1001 h0 x2) 1005 h0 0)) (f := 1006) (a := h0) (v := 0))
  refine lv_aload_n hx hb dX10_takeText_20 rfl (lv_at hl 0 rfl) ?_
  refine lv_iconst (v := 0) hx hb dX10_takeText_21 (by decide) ?_
  refine r_put C hM kh0 f_X10_29 (fun r h => by cases h; rfl) rfl rfl (mPut.I (ci := 10) (k := 7) rfl) dX10_takeText_22 (fun H locs hM => ?_)
  have hM : mH D H0 (pI (pL (pL (pI S 1001 h0 x2) 1005 h0 0) 1006 h0 0) 1007 h0 0) kc ns H locs := hM
  have hI := hI.fe (fEq.I (S := (pL (pL (pI S 1001 h0 x2) 1005 h0 0) 1006 h0 0)) (f := 1007) (a := h0) (v := 0) (by decide))
  have hF := hF.trans (fEq.I (S := (pL (pL (pI S 1001 h0 x2) 1005 h0 0) 1006 h0 0)) (f := 1007) (a := h0) (v := 0) (by decide))
  refine lv_iconst (v := 0) hx hb dX10_takeText_25 (by decide) ?_
  refine lv_istore_n (lv' := [(1, .int 0), (0, .ref h0)]) hx hb dX10_takeText_26 rfl hl (by decide) rfl (fun ls hl => ?_)
  have hFa27 := hF
  have loop27 : ∀ (fu : Nat) (j : Int32) (Sa : Mem) (H : Heap) (locs : List Loc) (ls : Array Slot), (fEq S Sa) → (0 ≤ j.toInt) → (16 - j.toInt).toNat < fu → lv_has ls 2 [(0, .ref h0), (1, .int j)] → mH D H0 Sa kc ns H locs → W p l e ({ frames := 1, cells := 0, slots := 0, locals := 21 } : Room) s m args below meth c H locs 0 0 (MQ below (mQ D H0 gV (fun r S1 k1 n1 => kc = k1 ∧ ns = n1 ∧ fEq S S1 ∧ True)) args s 0 0 (mF H0)) (F0 m 27 ls []) := by
    intro fu
    induction fu with
    | zero => intro j Sa H locs ls h27_0 h27_1 hfu; exact absurd hfu (by omega)
    | succ fu ih27 =>
      intro j Sa H locs ls h27_0 h27_1 hfu hl hM
      have hF := h27_0
      have hI := hI0.fe hF
      have kh0 : mK Sa h0 = 11 := (congrFun (hF.1.trans hFa27.1.symm) h0).trans kh0
      refine lv_iload_n hx hb dX10_takeText_27 rfl (lv_at hl 1 rfl) ?_
      refine lv_bipush (v := 16) hx hb dX10_takeText_28 (by decide) ?_
      refine lv_icmp_ge (tgt := 81) hx hb dX10_takeText_30 (by decide) (fun c3 => ?_) (fun c3 => ?_)
      · have tc3 := leT c3
        refine lv_aload_n hx hb dX10_takeText_81 rfl (lv_at hl 0 rfl) ?_
        refine lv_aload_n hx hb dX10_takeText_82 rfl (lv_at hl 0 rfl) ?_
        obtain ⟨q4, eq4, kq4, nq4⟩ := TI.nn hI.1 (ci := 10) (k := 0) kh0
        refine r_get (ci := 10) (k := 0) (v := .ref q4) C hM kh0 f_X10_32 (congrArg va_rf eq4) dX10_takeText_83 ?_
        refine lv_aload_n hx hb dX10_takeText_86 rfl (lv_at hl 0 rfl) ?_
        refine r_get (ci := 10) (k := 1) (v := .int (mI Sa 1001 h0)) C hM kh0 f_X10_7 rfl dX10_takeText_87 ?_
        refine lv_topi (fun x5 ex5 => ?_)
        refine r_VN (As := [.int x5]) (rest := [.ref h0]) (ci := 9) C hM (c_X9_byteAt l D H0 Sa kc ns q4 x5 hI kq4) i_X9_byteAt m_X10_41 kq4 rfl rfl rfl hl.1 rfl (Nat.le_of_ble_eq_true rfl) ⟨by decide, by decide⟩ ⟨by decide, by decide⟩ dX10_takeText_90 (fun x9 S6 k7 n8 H locs p10 hM => ?_)
        obtain ⟨rfl, rfl, rfl, hx9⟩ := p10
        refine W.eq (g2 := F0 m 93 ls [.int x9, .ref h0]) rfl ?_
        refine lv_bipush (v := 34) hx hb dX10_takeText_93 (by decide) ?_
        refine lv_icmp_ne (tgt := 102) hx hb dX10_takeText_95 (by decide) (fun c11 => ?_) (fun c11 => ?_)
        · have tc11 := eqF c11
          refine lv_bipush (v := 7) hx hb dX10_takeText_102 (by decide) ?_
          refine r_put C hM kh0 f_X10_13 (fun r h => by cases h; rfl) rfl rfl (mPut.I (ci := 10) (k := 2) rfl) dX10_takeText_104 (fun H locs hM => ?_)
          have hM : mH D H0 (pI Sa 1002 h0 7) kc ns H locs := hM
          have hI := hI.fe (fEq.I (S := Sa) (f := 1002) (a := h0) (v := 7) (by decide))
          have hF := hF.trans (fEq.I (S := Sa) (f := 1002) (a := h0) (v := 7) (by decide))
          refine lv_aload_n hx hb dX10_takeText_107 rfl (lv_at hl 0 rfl) ?_
          refine lv_dup hx hb dX10_takeText_108 rfl ?_
          refine r_get (ci := 10) (k := 1) (v := .int (mI (pI Sa 1002 h0 7) 1001 h0)) C hM kh0 f_X10_7 rfl dX10_takeText_109 ?_
          refine lv_topi (fun x12 ex12 => ?_)
          have gx12 : x12 = x5 := ex12.trans (ex5.symm)
          have hx12 : x12.toInt = x5.toInt := by rw [gx12]
          refine lv_iconst (v := 1) hx hb dX10_takeText_112 (by decide) ?_
          refine lv_iadd hx hb dX10_takeText_113 ?_
          refine lv_topi (fun x13 ex13 => ?_)
          try (have tx13 := addI (a := x12) (b := 1) (by omega) (by omega); rw [← ex13] at tx13)
          refine r_put C hM kh0 f_X10_7 (fun r h => by cases h; rfl) rfl rfl (mPut.I (ci := 10) (k := 1) rfl) dX10_takeText_114 (fun H locs hM => ?_)
          have hM : mH D H0 (pI (pI Sa 1002 h0 7) 1001 h0 x13) kc ns H locs := hM
          have hI := hI.fe (fEq.I (S := (pI Sa 1002 h0 7)) (f := 1001) (a := h0) (v := x13) (by decide))
          have hF := hF.trans (fEq.I (S := (pI Sa 1002 h0 7)) (f := 1001) (a := h0) (v := x13) (by decide))
          exact r_retV C hr hlk hM (⟨rfl, rfl, hF, trivial⟩) dX10_takeText_117
        · have tc11 := eqT c11
          refine lv_iconst (v := 2) hx hb dX10_takeText_98 (by decide) ?_
          refine lv_goto (tgt := 104) hx hb dX10_takeText_99 (by decide) ?_
          refine r_put C hM kh0 f_X10_13 (fun r h => by cases h; rfl) rfl rfl (mPut.I (ci := 10) (k := 2) rfl) dX10_takeText_104 (fun H locs hM => ?_)
          have hM : mH D H0 (pI Sa 1002 h0 2) kc ns H locs := hM
          have hI := hI.fe (fEq.I (S := Sa) (f := 1002) (a := h0) (v := 2) (by decide))
          have hF := hF.trans (fEq.I (S := Sa) (f := 1002) (a := h0) (v := 2) (by decide))
          refine lv_aload_n hx hb dX10_takeText_107 rfl (lv_at hl 0 rfl) ?_
          refine lv_dup hx hb dX10_takeText_108 rfl ?_
          refine r_get (ci := 10) (k := 1) (v := .int (mI (pI Sa 1002 h0 2) 1001 h0)) C hM kh0 f_X10_7 rfl dX10_takeText_109 ?_
          refine lv_topi (fun x14 ex14 => ?_)
          have gx14 : x14 = x5 := ex14.trans (ex5.symm)
          have hx14 : x14.toInt = x5.toInt := by rw [gx14]
          refine lv_iconst (v := 1) hx hb dX10_takeText_112 (by decide) ?_
          refine lv_iadd hx hb dX10_takeText_113 ?_
          refine lv_topi (fun x15 ex15 => ?_)
          try (have tx15 := addI (a := x14) (b := 1) (by omega) (by omega); rw [← ex15] at tx15)
          refine r_put C hM kh0 f_X10_7 (fun r h => by cases h; rfl) rfl rfl (mPut.I (ci := 10) (k := 1) rfl) dX10_takeText_114 (fun H locs hM => ?_)
          have hM : mH D H0 (pI (pI Sa 1002 h0 2) 1001 h0 x15) kc ns H locs := hM
          have hI := hI.fe (fEq.I (S := (pI Sa 1002 h0 2)) (f := 1001) (a := h0) (v := x15) (by decide))
          have hF := hF.trans (fEq.I (S := (pI Sa 1002 h0 2)) (f := 1001) (a := h0) (v := x15) (by decide))
          exact r_retV C hr hlk hM (⟨rfl, rfl, hF, trivial⟩) dX10_takeText_117
      · have tc3 := leF c3
        refine lv_aload_n hx hb dX10_takeText_33 rfl (lv_at hl 0 rfl) ?_
        obtain ⟨q16, eq16, kq16, nq16⟩ := TI.nn hI.1 (ci := 10) (k := 0) kh0
        refine r_get (ci := 10) (k := 0) (v := .ref q16) C hM kh0 f_X10_32 (congrArg va_rf eq16) dX10_takeText_34 ?_
        refine lv_aload_n hx hb dX10_takeText_37 rfl (lv_at hl 0 rfl) ?_
        refine r_get (ci := 10) (k := 1) (v := .int (mI Sa 1001 h0)) C hM kh0 f_X10_7 rfl dX10_takeText_38 ?_
        refine lv_topi (fun x17 ex17 => ?_)
        refine r_VN (As := [.int x17]) (rest := []) (ci := 9) C hM (c_X9_byteAt l D H0 Sa kc ns q16 x17 hI kq16) i_X9_byteAt m_X10_41 kq16 rfl rfl rfl hl.1 rfl (Nat.le_of_ble_eq_true rfl) ⟨by decide, by decide⟩ ⟨by decide, by decide⟩ dX10_takeText_41 (fun x21 S18 k19 n20 H locs p22 hM => ?_)
        obtain ⟨rfl, rfl, rfl, hx21⟩ := p22
        refine W.eq (g2 := F0 m 44 ls [.int x21]) rfl ?_
        refine r_S (As := [.int x21]) (rest := []) C hM (c_X10_isTextByte l D H0 Sa kc ns x21) i_X10_isTextByte m_X10_61 rfl hl.1 rfl (Nat.le_of_ble_eq_true rfl) ⟨by decide, by decide⟩ ⟨by decide, by decide⟩ dX10_takeText_44 (fun x26 S23 k24 n25 H locs p27 hM => ?_)
        obtain ⟨rfl, rfl, rfl, hx26⟩ := p27
        refine W.eq (g2 := F0 m 47 ls [.int x26]) rfl ?_
        refine lv_if_eq (tgt := 81) hx hb dX10_takeText_47 (by decide) (fun c28 => ?_) (fun c28 => ?_)
        · have tc28 := eqT c28
          refine lv_aload_n hx hb dX10_takeText_81 rfl (lv_at hl 0 rfl) ?_
          refine lv_aload_n hx hb dX10_takeText_82 rfl (lv_at hl 0 rfl) ?_
          refine r_get (ci := 10) (k := 0) (v := .ref q16) C hM kh0 f_X10_32 (congrArg va_rf (eq16)) dX10_takeText_83 ?_
          refine lv_aload_n hx hb dX10_takeText_86 rfl (lv_at hl 0 rfl) ?_
          refine r_get (ci := 10) (k := 1) (v := .int (mI Sa 1001 h0)) C hM kh0 f_X10_7 rfl dX10_takeText_87 ?_
          refine lv_topi (fun x29 ex29 => ?_)
          have gx29 : x29 = x17 := ex29.trans (ex17.symm)
          have hx29 : x29.toInt = x17.toInt := by rw [gx29]
          refine r_VN (As := [.int x29]) (rest := [.ref h0]) (ci := 9) C hM (c_X9_byteAt l D H0 Sa kc ns q16 x29 hI kq16) i_X9_byteAt m_X10_41 kq16 rfl rfl rfl hl.1 rfl (Nat.le_of_ble_eq_true rfl) ⟨by decide, by decide⟩ ⟨by decide, by decide⟩ dX10_takeText_90 (fun x33 S30 k31 n32 H locs p34 hM => ?_)
          obtain ⟨rfl, rfl, rfl, hx33⟩ := p34
          refine W.eq (g2 := F0 m 93 ls [.int x33, .ref h0]) rfl ?_
          refine lv_bipush (v := 34) hx hb dX10_takeText_93 (by decide) ?_
          refine lv_icmp_ne (tgt := 102) hx hb dX10_takeText_95 (by decide) (fun c35 => ?_) (fun c35 => ?_)
          · have tc35 := eqF c35
            refine lv_bipush (v := 7) hx hb dX10_takeText_102 (by decide) ?_
            refine r_put C hM kh0 f_X10_13 (fun r h => by cases h; rfl) rfl rfl (mPut.I (ci := 10) (k := 2) rfl) dX10_takeText_104 (fun H locs hM => ?_)
            have hM : mH D H0 (pI Sa 1002 h0 7) kc ns H locs := hM
            have hI := hI.fe (fEq.I (S := Sa) (f := 1002) (a := h0) (v := 7) (by decide))
            have hF := hF.trans (fEq.I (S := Sa) (f := 1002) (a := h0) (v := 7) (by decide))
            refine lv_aload_n hx hb dX10_takeText_107 rfl (lv_at hl 0 rfl) ?_
            refine lv_dup hx hb dX10_takeText_108 rfl ?_
            refine r_get (ci := 10) (k := 1) (v := .int (mI (pI Sa 1002 h0 7) 1001 h0)) C hM kh0 f_X10_7 rfl dX10_takeText_109 ?_
            refine lv_topi (fun x36 ex36 => ?_)
            have gx36 : x36 = x17 := ex36.trans (ex17.symm)
            have hx36 : x36.toInt = x17.toInt := by rw [gx36]
            refine lv_iconst (v := 1) hx hb dX10_takeText_112 (by decide) ?_
            refine lv_iadd hx hb dX10_takeText_113 ?_
            refine lv_topi (fun x37 ex37 => ?_)
            try (have tx37 := addI (a := x36) (b := 1) (by omega) (by omega); rw [← ex37] at tx37)
            refine r_put C hM kh0 f_X10_7 (fun r h => by cases h; rfl) rfl rfl (mPut.I (ci := 10) (k := 1) rfl) dX10_takeText_114 (fun H locs hM => ?_)
            have hM : mH D H0 (pI (pI Sa 1002 h0 7) 1001 h0 x37) kc ns H locs := hM
            have hI := hI.fe (fEq.I (S := (pI Sa 1002 h0 7)) (f := 1001) (a := h0) (v := x37) (by decide))
            have hF := hF.trans (fEq.I (S := (pI Sa 1002 h0 7)) (f := 1001) (a := h0) (v := x37) (by decide))
            exact r_retV C hr hlk hM (⟨rfl, rfl, hF, trivial⟩) dX10_takeText_117
          · have tc35 := eqT c35
            refine lv_iconst (v := 2) hx hb dX10_takeText_98 (by decide) ?_
            refine lv_goto (tgt := 104) hx hb dX10_takeText_99 (by decide) ?_
            refine r_put C hM kh0 f_X10_13 (fun r h => by cases h; rfl) rfl rfl (mPut.I (ci := 10) (k := 2) rfl) dX10_takeText_104 (fun H locs hM => ?_)
            have hM : mH D H0 (pI Sa 1002 h0 2) kc ns H locs := hM
            have hI := hI.fe (fEq.I (S := Sa) (f := 1002) (a := h0) (v := 2) (by decide))
            have hF := hF.trans (fEq.I (S := Sa) (f := 1002) (a := h0) (v := 2) (by decide))
            refine lv_aload_n hx hb dX10_takeText_107 rfl (lv_at hl 0 rfl) ?_
            refine lv_dup hx hb dX10_takeText_108 rfl ?_
            refine r_get (ci := 10) (k := 1) (v := .int (mI (pI Sa 1002 h0 2) 1001 h0)) C hM kh0 f_X10_7 rfl dX10_takeText_109 ?_
            refine lv_topi (fun x38 ex38 => ?_)
            have gx38 : x38 = x17 := ex38.trans (ex17.symm)
            have hx38 : x38.toInt = x17.toInt := by rw [gx38]
            refine lv_iconst (v := 1) hx hb dX10_takeText_112 (by decide) ?_
            refine lv_iadd hx hb dX10_takeText_113 ?_
            refine lv_topi (fun x39 ex39 => ?_)
            try (have tx39 := addI (a := x38) (b := 1) (by omega) (by omega); rw [← ex39] at tx39)
            refine r_put C hM kh0 f_X10_7 (fun r h => by cases h; rfl) rfl rfl (mPut.I (ci := 10) (k := 1) rfl) dX10_takeText_114 (fun H locs hM => ?_)
            have hM : mH D H0 (pI (pI Sa 1002 h0 2) 1001 h0 x39) kc ns H locs := hM
            have hI := hI.fe (fEq.I (S := (pI Sa 1002 h0 2)) (f := 1001) (a := h0) (v := x39) (by decide))
            have hF := hF.trans (fEq.I (S := (pI Sa 1002 h0 2)) (f := 1001) (a := h0) (v := x39) (by decide))
            exact r_retV C hr hlk hM (⟨rfl, rfl, hF, trivial⟩) dX10_takeText_117
        · have tc28 := eqF c28
          refine lv_aload_n hx hb dX10_takeText_50 rfl (lv_at hl 0 rfl) ?_
          refine lv_aload_n hx hb dX10_takeText_51 rfl (lv_at hl 0 rfl) ?_
          refine r_get (ci := 10) (k := 0) (v := .ref q16) C hM kh0 f_X10_32 (congrArg va_rf (eq16)) dX10_takeText_52 ?_
          refine lv_aload_n hx hb dX10_takeText_55 rfl (lv_at hl 0 rfl) ?_
          refine r_get (ci := 10) (k := 1) (v := .int (mI Sa 1001 h0)) C hM kh0 f_X10_7 rfl dX10_takeText_56 ?_
          refine lv_topi (fun x40 ex40 => ?_)
          have gx40 : x40 = x17 := ex40.trans (ex17.symm)
          have hx40 : x40.toInt = x17.toInt := by rw [gx40]
          refine r_VN (As := [.int x40]) (rest := [.ref h0]) (ci := 9) C hM (c_X9_byteAt l D H0 Sa kc ns q16 x40 hI kq16) i_X9_byteAt m_X10_41 kq16 rfl rfl rfl hl.1 rfl (Nat.le_of_ble_eq_true rfl) ⟨by decide, by decide⟩ ⟨by decide, by decide⟩ dX10_takeText_59 (fun x44 S41 k42 n43 H locs p45 hM => ?_)
          obtain ⟨rfl, rfl, rfl, hx44⟩ := p45
          refine W.eq (g2 := F0 m 62 ls [.int x44, .ref h0]) rfl ?_
          refine r_V (As := [.int x44]) (rest := []) (ci := 10) C hM (c_X10_putTextByte l D H0 Sa kc ns h0 x44 hI kh0) i_X10_putTextByte m_X10_64 kh0 rfl rfl rfl hl.1 rfl (Nat.le_of_ble_eq_true rfl) ⟨by decide, by decide⟩ ⟨by decide, by decide⟩ dX10_takeText_62 (fun u49 S46 k47 n48 H locs p50 hM => ?_)
          obtain ⟨rfl, rfl, hf9, hu49⟩ := p50
          have hF := hF.trans hf9
          have hI := hI.fe hf9
          have kh0 : mK S46 h0 = 11 := (congrFun (hf9.1) h0).trans kh0
          have kq16 : mK S46 q16 = 10 := (congrFun (hf9.1) q16).trans kq16
          have v51 : mR S46 1000 h0 = some q16 := (congrFun (congrFun hf9.2.1 1000) h0).trans (eq16)
          refine W.eq (g2 := F0 m 65 ls []) rfl ?_
          refine lv_aload_n hx hb dX10_takeText_65 rfl (lv_at hl 0 rfl) ?_
          refine lv_dup hx hb dX10_takeText_66 rfl ?_
          refine r_get (ci := 10) (k := 1) (v := .int (mI S46 1001 h0)) C hM kh0 f_X10_7 rfl dX10_takeText_67 ?_
          refine lv_topi (fun x52 ex52 => ?_)
          refine lv_iconst (v := 1) hx hb dX10_takeText_70 (by decide) ?_
          refine lv_iadd hx hb dX10_takeText_71 ?_
          refine lv_topi (fun x53 ex53 => ?_)
          try (have tx53 := addI (a := x52) (b := 1) (by omega) (by omega); rw [← ex53] at tx53)
          refine r_put C hM kh0 f_X10_7 (fun r h => by cases h; rfl) rfl rfl (mPut.I (ci := 10) (k := 1) rfl) dX10_takeText_72 (fun H locs hM => ?_)
          have hM : mH D H0 (pI S46 1001 h0 x53) kc ns H locs := hM
          have hI := hI.fe (fEq.I (S := S46) (f := 1001) (a := h0) (v := x53) (by decide))
          have hF := hF.trans (fEq.I (S := S46) (f := 1001) (a := h0) (v := x53) (by decide))
          obtain ⟨x54, ex54⟩ : ∃ y : Int32, y = j + 1 := ⟨_, rfl⟩
          try (have tx54 := addI (a := j) (b := 1) (by omega) (by omega); rw [← ex54] at tx54)
          refine lv_iinc (v := x54) (lv' := [(1, .int x54), (0, .ref h0)]) hx hb dX10_takeText_75 hl (k := 1) rfl (by rw [ex54]; rfl) (by decide) rfl (fun ls hl => ?_)
          refine lv_goto (tgt := 27) hx hb dX10_takeText_78 (by decide) ?_
          exact ih27 x54 (pI S46 1001 h0 x53) _ _ _ (hF) (by omega) (by omega) (lv_sub hl [1, 0] rfl) hM
  exact loop27 (((16 - (0 : Int32).toInt).toNat) + 1) 0 (pI (pL (pL (pI S 1001 h0 x2) 1005 h0 0) 1006 h0 0) 1007 h0 0) _ _ _ (hF) (by omega) (by omega) (lv_sub hl [1, 0] rfl) hM
set_option maxHeartbeats 4000000 in
set_option maxRecDepth 100000 in
theorem c_X10_advance (l : Launch) (D : gD) (H0 : Heap) (S : Mem) (kc ns : Nat) (h0 : Nat) {u : Nat} {tl : Int} {rho : Nat} (hI : CI x0 u tl rho S) (kh0 : mK S h0 = 11) : Met l yX10_advance (wsU yX10_advance cX10_advance 2 none) ({ frames := 2, cells := 0, slots := 0, locals := 42 } : Room) (mP D H0 S kc ns [.ref h0]) (mQ D H0 gV (fun r S1 k1 n1 => kc = k1 ∧ ns = n1 ∧ fEq S S1 ∧ True)) 0 0 (mF H0) := by
  refine r_met (own := RX10) (by decide +kernel) rfl (Nat.le_of_ble_eq_true rfl) ?_
  intro p e s m args below meth c C hr hlk hnm H ls hl hM
  obtain ⟨hx, hb, hml, hown, hts, -, -⟩ := id C
  have hl : lv_has ls 2 [(0, .ref h0)] := hl
  have hI0 := hI
  have hF : fEq S S := fEq.rf
  have t_0 : (0 : Int32).toInt = 0 := by decide
  have t_1 : (1 : Int32).toInt = 1 := by decide
  have t_34 : (34 : Int32).toInt = 34 := by decide
  have hFa0 := hF
  have loop0 : ∀ (fu : Nat) (Sa : Mem) (H : Heap) (locs : List Loc) (ls : Array Slot), (fEq S Sa) → (1601 - (mI Sa 1001 h0).toInt).toNat < fu → lv_has ls 2 [(0, .ref h0)] → mH D H0 Sa kc ns H locs → W p l e ({ frames := 2, cells := 0, slots := 0, locals := 42 } : Room) s m args below meth c H locs 0 0 (MQ below (mQ D H0 gV (fun r S1 k1 n1 => kc = k1 ∧ ns = n1 ∧ fEq S S1 ∧ True)) args s 0 0 (mF H0)) (F0 m 0 ls []) := by
    intro fu
    induction fu with
    | zero => intro Sa H locs ls h0_0 hfu; exact absurd hfu (by omega)
    | succ fu ih0 =>
      intro Sa H locs ls h0_0 hfu hl hM
      have hF := h0_0
      have hI := hI0.fe hF
      have kh0 : mK Sa h0 = 11 := (congrFun (hF.1.trans hFa0.1.symm) h0).trans kh0
      refine lv_aload_n hx hb dX10_advance_0 rfl (lv_at hl 0 rfl) ?_
      refine r_get (ci := 10) (k := 1) (v := .int (mI Sa 1001 h0)) C hM kh0 f_X10_7 rfl dX10_advance_1 ?_
      refine lv_topi (fun x1 ex1 => ?_)
      refine lv_aload_n hx hb dX10_advance_4 rfl (lv_at hl 0 rfl) ?_
      obtain ⟨q2, eq2, kq2, nq2⟩ := TI.nn hI.1 (ci := 10) (k := 0) kh0
      refine r_get (ci := 10) (k := 0) (v := .ref q2) C hM kh0 f_X10_32 (congrArg va_rf eq2) dX10_advance_5 ?_
      refine r_getN (ci := 9) (k := 1) (v := .int (mI Sa 901 q2)) C hM kq2 f_X10_36 rfl dX10_advance_8 ?_
      refine lv_topi (fun x3 ex3 => ?_)
      have fx3 := NI.f901 hI.2 kq2
      rw [← ex3] at fx3
      refine lv_icmp_ge (tgt := 44) hx hb dX10_advance_11 (by decide) (fun c4 => ?_) (fun c4 => ?_)
      · have tc4 := leT c4
        refine lv_aload_n hx hb dX10_advance_44 rfl (lv_at hl 0 rfl) ?_
        refine lv_aload_n hx hb dX10_advance_45 rfl (lv_at hl 0 rfl) ?_
        refine r_get (ci := 10) (k := 1) (v := .int (mI Sa 1001 h0)) C hM kh0 f_X10_7 rfl dX10_advance_46 ?_
        refine lv_topi (fun x5 ex5 => ?_)
        have gx5 : x5 = x1 := ex5.trans (ex1.symm)
        have hx5 : x5.toInt = x1.toInt := by rw [gx5]
        refine r_put C hM kh0 f_X10_16 (fun r h => by cases h; rfl) rfl rfl (mPut.I (ci := 10) (k := 3) rfl) dX10_advance_49 (fun H locs hM => ?_)
        have hM : mH D H0 (pI Sa 1003 h0 x5) kc ns H locs := hM
        have hI := hI.fe (fEq.I (S := Sa) (f := 1003) (a := h0) (v := x5) (by decide))
        have hF := hF.trans (fEq.I (S := Sa) (f := 1003) (a := h0) (v := x5) (by decide))
        refine lv_aload_n hx hb dX10_advance_52 rfl (lv_at hl 0 rfl) ?_
        refine r_get (ci := 10) (k := 0) (v := .ref q2) C hM kh0 f_X10_32 (congrArg va_rf (eq2)) dX10_advance_53 ?_
        refine lv_aload_n hx hb dX10_advance_56 rfl (lv_at hl 0 rfl) ?_
        refine r_get (ci := 10) (k := 1) (v := .int (mI (pI Sa 1003 h0 x5) 1001 h0)) C hM kh0 f_X10_7 rfl dX10_advance_57 ?_
        refine lv_topi (fun x6 ex6 => ?_)
        have gx6 : x6 = x1 := ex6.trans (ex1.symm)
        have hx6 : x6.toInt = x1.toInt := by rw [gx6]
        refine r_VN (As := [.int x6]) (rest := []) (ci := 9) C hM (c_X9_byteAt l D H0 (pI Sa 1003 h0 x5) kc ns q2 x6 hI kq2) i_X9_byteAt m_X10_41 kq2 rfl rfl rfl hl.1 rfl (Nat.le_of_ble_eq_true rfl) ⟨by decide, by decide⟩ ⟨by decide, by decide⟩ dX10_advance_60 (fun x10 S7 k8 n9 H locs p11 hM => ?_)
        obtain ⟨rfl, rfl, rfl, hx10⟩ := p11
        refine W.eq (g2 := F0 m 63 ls [.int x10]) rfl ?_
        refine lv_istore_n (lv' := [(1, .int x10), (0, .ref h0)]) hx hb dX10_advance_63 rfl hl (by decide) rfl (fun ls hl => ?_)
        refine lv_iload_n hx hb dX10_advance_64 rfl (lv_at hl 0 rfl) ?_
        refine r_S (As := [.int x10]) (rest := []) C hM (c_X10_isLetter l D H0 (pI Sa 1003 h0 x5) kc ns x10) i_X10_isLetter m_X10_49 rfl hl.1 rfl (Nat.le_of_ble_eq_true rfl) ⟨by decide, by decide⟩ ⟨by decide, by decide⟩ dX10_advance_65 (fun x15 S12 k13 n14 H locs p16 hM => ?_)
        obtain ⟨rfl, rfl, rfl, hx15⟩ := p16
        refine W.eq (g2 := F0 m 68 ls [.int x15]) rfl ?_
        refine lv_if_eq (tgt := 78) hx hb dX10_advance_68 (by decide) (fun c17 => ?_) (fun c17 => ?_)
        · have tc17 := eqT c17
          refine lv_iload_n hx hb dX10_advance_78 rfl (lv_at hl 0 rfl) ?_
          refine lv_bipush (v := 34) hx hb dX10_advance_79 (by decide) ?_
          refine lv_icmp_ne (tgt := 91) hx hb dX10_advance_81 (by decide) (fun c18 => ?_) (fun c18 => ?_)
          · have tc18 := eqF c18
            refine lv_aload_n hx hb dX10_advance_91 rfl (lv_at hl 1 rfl) ?_
            refine lv_aload_n hx hb dX10_advance_92 rfl (lv_at hl 1 rfl) ?_
            refine r_get (ci := 10) (k := 1) (v := .int (mI (pI Sa 1003 h0 x5) 1001 h0)) C hM kh0 f_X10_7 rfl dX10_advance_93 ?_
            refine lv_topi (fun x19 ex19 => ?_)
            have gx19 : x19 = x1 := ex19.trans (ex1.symm)
            have hx19 : x19.toInt = x1.toInt := by rw [gx19]
            refine lv_aload_n hx hb dX10_advance_96 rfl (lv_at hl 1 rfl) ?_
            refine r_get (ci := 10) (k := 0) (v := .ref q2) C hM kh0 f_X10_32 (congrArg va_rf (eq2)) dX10_advance_97 ?_
            refine r_getN (ci := 9) (k := 1) (v := .int (mI (pI Sa 1003 h0 x5) 901 q2)) C hM kq2 f_X10_36 rfl dX10_advance_100 ?_
            refine lv_topi (fun x20 ex20 => ?_)
            have fx20 := NI.f901 hI.2 kq2
            rw [← ex20] at fx20
            have gx20 : x20 = x3 := ex20.trans (ex3.symm)
            have hx20 : x20.toInt = x3.toInt := by rw [gx20]
            refine lv_icmp_lt (tgt := 110) hx hb dX10_advance_103 (by decide) (fun c21 => ?_) (fun c21 => ?_)
            · have tc21 := ltT c21
              refine lv_iload_n hx hb dX10_advance_110 rfl (lv_at hl 0 rfl) ?_
              refine r_S (As := [.int x10]) (rest := [.ref h0]) C hM (c_X10_signToken l D H0 (pI Sa 1003 h0 x5) kc ns x10) i_X10_signToken m_X10_58 rfl hl.1 rfl (Nat.le_of_ble_eq_true rfl) ⟨by decide, by decide⟩ ⟨by decide, by decide⟩ dX10_advance_111 (fun x25 S22 k23 n24 H locs p26 hM => ?_)
              obtain ⟨rfl, rfl, rfl, hx25⟩ := p26
              refine W.eq (g2 := F0 m 114 ls [.int x25, .ref h0]) rfl ?_
              refine r_put C hM kh0 f_X10_13 (fun r h => by cases h; rfl) rfl rfl (mPut.I (ci := 10) (k := 2) rfl) dX10_advance_114 (fun H locs hM => ?_)
              have hM : mH D H0 (pI (pI Sa 1003 h0 x5) 1002 h0 x25) kc ns H locs := hM
              have hI := hI.fe (fEq.I (S := (pI Sa 1003 h0 x5)) (f := 1002) (a := h0) (v := x25) (by decide))
              have hF := hF.trans (fEq.I (S := (pI Sa 1003 h0 x5)) (f := 1002) (a := h0) (v := x25) (by decide))
              refine lv_aload_n hx hb dX10_advance_117 rfl (lv_at hl 1 rfl) ?_
              refine lv_dup hx hb dX10_advance_118 rfl ?_
              refine r_get (ci := 10) (k := 1) (v := .int (mI (pI (pI Sa 1003 h0 x5) 1002 h0 x25) 1001 h0)) C hM kh0 f_X10_7 rfl dX10_advance_119 ?_
              refine lv_topi (fun x27 ex27 => ?_)
              have gx27 : x27 = x1 := ex27.trans (ex1.symm)
              have hx27 : x27.toInt = x1.toInt := by rw [gx27]
              refine lv_iconst (v := 1) hx hb dX10_advance_122 (by decide) ?_
              refine lv_iadd hx hb dX10_advance_123 ?_
              refine lv_topi (fun x28 ex28 => ?_)
              try (have tx28 := addI (a := x27) (b := 1) (by omega) (by omega); rw [← ex28] at tx28)
              refine r_put C hM kh0 f_X10_7 (fun r h => by cases h; rfl) rfl rfl (mPut.I (ci := 10) (k := 1) rfl) dX10_advance_124 (fun H locs hM => ?_)
              have hM : mH D H0 (pI (pI (pI Sa 1003 h0 x5) 1002 h0 x25) 1001 h0 x28) kc ns H locs := hM
              have hI := hI.fe (fEq.I (S := (pI (pI Sa 1003 h0 x5) 1002 h0 x25)) (f := 1001) (a := h0) (v := x28) (by decide))
              have hF := hF.trans (fEq.I (S := (pI (pI Sa 1003 h0 x5) 1002 h0 x25)) (f := 1001) (a := h0) (v := x28) (by decide))
              exact r_retV C hr hlk hM (⟨rfl, rfl, hF, trivial⟩) dX10_advance_127
            · have tc21 := ltF c21
              refine lv_iconst (v := 0) hx hb dX10_advance_106 (by decide) ?_
              refine lv_goto (tgt := 114) hx hb dX10_advance_107 (by decide) ?_
              refine r_put C hM kh0 f_X10_13 (fun r h => by cases h; rfl) rfl rfl (mPut.I (ci := 10) (k := 2) rfl) dX10_advance_114 (fun H locs hM => ?_)
              have hM : mH D H0 (pI (pI Sa 1003 h0 x5) 1002 h0 0) kc ns H locs := hM
              have hI := hI.fe (fEq.I (S := (pI Sa 1003 h0 x5)) (f := 1002) (a := h0) (v := 0) (by decide))
              have hF := hF.trans (fEq.I (S := (pI Sa 1003 h0 x5)) (f := 1002) (a := h0) (v := 0) (by decide))
              refine lv_aload_n hx hb dX10_advance_117 rfl (lv_at hl 1 rfl) ?_
              refine lv_dup hx hb dX10_advance_118 rfl ?_
              refine r_get (ci := 10) (k := 1) (v := .int (mI (pI (pI Sa 1003 h0 x5) 1002 h0 0) 1001 h0)) C hM kh0 f_X10_7 rfl dX10_advance_119 ?_
              refine lv_topi (fun x29 ex29 => ?_)
              have gx29 : x29 = x1 := ex29.trans (ex1.symm)
              have hx29 : x29.toInt = x1.toInt := by rw [gx29]
              refine lv_iconst (v := 1) hx hb dX10_advance_122 (by decide) ?_
              refine lv_iadd hx hb dX10_advance_123 ?_
              refine lv_topi (fun x30 ex30 => ?_)
              try (have tx30 := addI (a := x29) (b := 1) (by omega) (by omega); rw [← ex30] at tx30)
              refine r_put C hM kh0 f_X10_7 (fun r h => by cases h; rfl) rfl rfl (mPut.I (ci := 10) (k := 1) rfl) dX10_advance_124 (fun H locs hM => ?_)
              have hM : mH D H0 (pI (pI (pI Sa 1003 h0 x5) 1002 h0 0) 1001 h0 x30) kc ns H locs := hM
              have hI := hI.fe (fEq.I (S := (pI (pI Sa 1003 h0 x5) 1002 h0 0)) (f := 1001) (a := h0) (v := x30) (by decide))
              have hF := hF.trans (fEq.I (S := (pI (pI Sa 1003 h0 x5) 1002 h0 0)) (f := 1001) (a := h0) (v := x30) (by decide))
              exact r_retV C hr hlk hM (⟨rfl, rfl, hF, trivial⟩) dX10_advance_127
          · have tc18 := eqT c18
            refine lv_aload_n hx hb dX10_advance_84 rfl (lv_at hl 1 rfl) ?_
            refine r_V (As := []) (rest := []) (ci := 10) C hM (c_X10_takeText l D H0 (pI Sa 1003 h0 x5) kc ns h0 hI kh0) i_X10_takeText m_X10_55 kh0 rfl rfl rfl hl.1 rfl (Nat.le_of_ble_eq_true rfl) ⟨by decide, by decide⟩ ⟨by decide, by decide⟩ dX10_advance_85 (fun u34 S31 k32 n33 H locs p35 hM => ?_)
            obtain ⟨rfl, rfl, hf9, hu34⟩ := p35
            have hF := hF.trans hf9
            have hI := hI.fe hf9
            have kh0 : mK S31 h0 = 11 := (congrFun (hf9.1) h0).trans kh0
            have kq2 : mK S31 q2 = 10 := (congrFun (hf9.1) q2).trans kq2
            have v36 : mR S31 1000 h0 = some q2 := (congrFun (congrFun hf9.2.1 1000) h0).trans (eq2)
            refine W.eq (g2 := F0 m 88 ls []) rfl ?_
            refine lv_goto (tgt := 127) hx hb dX10_advance_88 (by decide) ?_
            exact r_retV C hr hlk hM (⟨rfl, rfl, hF, trivial⟩) dX10_advance_127
        · have tc17 := eqF c17
          refine lv_aload_n hx hb dX10_advance_71 rfl (lv_at hl 1 rfl) ?_
          refine r_V (As := []) (rest := []) (ci := 10) C hM (c_X10_takeWord l D H0 (pI Sa 1003 h0 x5) kc ns h0 hI kh0) i_X10_takeWord m_X10_52 kh0 rfl rfl rfl hl.1 rfl (Nat.le_of_ble_eq_true rfl) ⟨by decide, by decide⟩ ⟨by decide, by decide⟩ dX10_advance_72 (fun u40 S37 k38 n39 H locs p41 hM => ?_)
          obtain ⟨rfl, rfl, hf9, hu40⟩ := p41
          have hF := hF.trans hf9
          have hI := hI.fe hf9
          have kh0 : mK S37 h0 = 11 := (congrFun (hf9.1) h0).trans kh0
          have kq2 : mK S37 q2 = 10 := (congrFun (hf9.1) q2).trans kq2
          have v42 : mR S37 1000 h0 = some q2 := (congrFun (congrFun hf9.2.1 1000) h0).trans (eq2)
          refine W.eq (g2 := F0 m 75 ls []) rfl ?_
          refine lv_goto (tgt := 127) hx hb dX10_advance_75 (by decide) ?_
          exact r_retV C hr hlk hM (⟨rfl, rfl, hF, trivial⟩) dX10_advance_127
      · have tc4 := leF c4
        refine lv_aload_n hx hb dX10_advance_14 rfl (lv_at hl 0 rfl) ?_
        refine r_get (ci := 10) (k := 0) (v := .ref q2) C hM kh0 f_X10_32 (congrArg va_rf (eq2)) dX10_advance_15 ?_
        refine lv_aload_n hx hb dX10_advance_18 rfl (lv_at hl 0 rfl) ?_
        refine r_get (ci := 10) (k := 1) (v := .int (mI Sa 1001 h0)) C hM kh0 f_X10_7 rfl dX10_advance_19 ?_
        refine lv_topi (fun x43 ex43 => ?_)
        have gx43 : x43 = x1 := ex43.trans (ex1.symm)
        have hx43 : x43.toInt = x1.toInt := by rw [gx43]
        refine r_VN (As := [.int x43]) (rest := []) (ci := 9) C hM (c_X9_byteAt l D H0 Sa kc ns q2 x43 hI kq2) i_X9_byteAt m_X10_41 kq2 rfl rfl rfl hl.1 rfl (Nat.le_of_ble_eq_true rfl) ⟨by decide, by decide⟩ ⟨by decide, by decide⟩ dX10_advance_22 (fun x47 S44 k45 n46 H locs p48 hM => ?_)
        obtain ⟨rfl, rfl, rfl, hx47⟩ := p48
        refine W.eq (g2 := F0 m 25 ls [.int x47]) rfl ?_
        refine r_S (As := [.int x47]) (rest := []) C hM (c_X10_isBlank l D H0 Sa kc ns x47) i_X10_isBlank m_X10_45 rfl hl.1 rfl (Nat.le_of_ble_eq_true rfl) ⟨by decide, by decide⟩ ⟨by decide, by decide⟩ dX10_advance_25 (fun x52 S49 k50 n51 H locs p53 hM => ?_)
        obtain ⟨rfl, rfl, rfl, hx52⟩ := p53
        refine W.eq (g2 := F0 m 28 ls [.int x52]) rfl ?_
        refine lv_if_eq (tgt := 44) hx hb dX10_advance_28 (by decide) (fun c54 => ?_) (fun c54 => ?_)
        · have tc54 := eqT c54
          refine lv_aload_n hx hb dX10_advance_44 rfl (lv_at hl 0 rfl) ?_
          refine lv_aload_n hx hb dX10_advance_45 rfl (lv_at hl 0 rfl) ?_
          refine r_get (ci := 10) (k := 1) (v := .int (mI Sa 1001 h0)) C hM kh0 f_X10_7 rfl dX10_advance_46 ?_
          refine lv_topi (fun x55 ex55 => ?_)
          have gx55 : x55 = x1 := ex55.trans (ex1.symm)
          have hx55 : x55.toInt = x1.toInt := by rw [gx55]
          refine r_put C hM kh0 f_X10_16 (fun r h => by cases h; rfl) rfl rfl (mPut.I (ci := 10) (k := 3) rfl) dX10_advance_49 (fun H locs hM => ?_)
          have hM : mH D H0 (pI Sa 1003 h0 x55) kc ns H locs := hM
          have hI := hI.fe (fEq.I (S := Sa) (f := 1003) (a := h0) (v := x55) (by decide))
          have hF := hF.trans (fEq.I (S := Sa) (f := 1003) (a := h0) (v := x55) (by decide))
          refine lv_aload_n hx hb dX10_advance_52 rfl (lv_at hl 0 rfl) ?_
          refine r_get (ci := 10) (k := 0) (v := .ref q2) C hM kh0 f_X10_32 (congrArg va_rf (eq2)) dX10_advance_53 ?_
          refine lv_aload_n hx hb dX10_advance_56 rfl (lv_at hl 0 rfl) ?_
          refine r_get (ci := 10) (k := 1) (v := .int (mI (pI Sa 1003 h0 x55) 1001 h0)) C hM kh0 f_X10_7 rfl dX10_advance_57 ?_
          refine lv_topi (fun x56 ex56 => ?_)
          have gx56 : x56 = x1 := ex56.trans (ex1.symm)
          have hx56 : x56.toInt = x1.toInt := by rw [gx56]
          refine r_VN (As := [.int x56]) (rest := []) (ci := 9) C hM (c_X9_byteAt l D H0 (pI Sa 1003 h0 x55) kc ns q2 x56 hI kq2) i_X9_byteAt m_X10_41 kq2 rfl rfl rfl hl.1 rfl (Nat.le_of_ble_eq_true rfl) ⟨by decide, by decide⟩ ⟨by decide, by decide⟩ dX10_advance_60 (fun x60 S57 k58 n59 H locs p61 hM => ?_)
          obtain ⟨rfl, rfl, rfl, hx60⟩ := p61
          refine W.eq (g2 := F0 m 63 ls [.int x60]) rfl ?_
          refine lv_istore_n (lv' := [(1, .int x60), (0, .ref h0)]) hx hb dX10_advance_63 rfl hl (by decide) rfl (fun ls hl => ?_)
          refine lv_iload_n hx hb dX10_advance_64 rfl (lv_at hl 0 rfl) ?_
          refine r_S (As := [.int x60]) (rest := []) C hM (c_X10_isLetter l D H0 (pI Sa 1003 h0 x55) kc ns x60) i_X10_isLetter m_X10_49 rfl hl.1 rfl (Nat.le_of_ble_eq_true rfl) ⟨by decide, by decide⟩ ⟨by decide, by decide⟩ dX10_advance_65 (fun x65 S62 k63 n64 H locs p66 hM => ?_)
          obtain ⟨rfl, rfl, rfl, hx65⟩ := p66
          refine W.eq (g2 := F0 m 68 ls [.int x65]) rfl ?_
          refine lv_if_eq (tgt := 78) hx hb dX10_advance_68 (by decide) (fun c67 => ?_) (fun c67 => ?_)
          · have tc67 := eqT c67
            refine lv_iload_n hx hb dX10_advance_78 rfl (lv_at hl 0 rfl) ?_
            refine lv_bipush (v := 34) hx hb dX10_advance_79 (by decide) ?_
            refine lv_icmp_ne (tgt := 91) hx hb dX10_advance_81 (by decide) (fun c68 => ?_) (fun c68 => ?_)
            · have tc68 := eqF c68
              refine lv_aload_n hx hb dX10_advance_91 rfl (lv_at hl 1 rfl) ?_
              refine lv_aload_n hx hb dX10_advance_92 rfl (lv_at hl 1 rfl) ?_
              refine r_get (ci := 10) (k := 1) (v := .int (mI (pI Sa 1003 h0 x55) 1001 h0)) C hM kh0 f_X10_7 rfl dX10_advance_93 ?_
              refine lv_topi (fun x69 ex69 => ?_)
              have gx69 : x69 = x1 := ex69.trans (ex1.symm)
              have hx69 : x69.toInt = x1.toInt := by rw [gx69]
              refine lv_aload_n hx hb dX10_advance_96 rfl (lv_at hl 1 rfl) ?_
              refine r_get (ci := 10) (k := 0) (v := .ref q2) C hM kh0 f_X10_32 (congrArg va_rf (eq2)) dX10_advance_97 ?_
              refine r_getN (ci := 9) (k := 1) (v := .int (mI (pI Sa 1003 h0 x55) 901 q2)) C hM kq2 f_X10_36 rfl dX10_advance_100 ?_
              refine lv_topi (fun x70 ex70 => ?_)
              have fx70 := NI.f901 hI.2 kq2
              rw [← ex70] at fx70
              have gx70 : x70 = x3 := ex70.trans (ex3.symm)
              have hx70 : x70.toInt = x3.toInt := by rw [gx70]
              refine lv_icmp_lt (tgt := 110) hx hb dX10_advance_103 (by decide) (fun c71 => ?_) (fun c71 => ?_)
              · have tc71 := ltT c71
                refine lv_iload_n hx hb dX10_advance_110 rfl (lv_at hl 0 rfl) ?_
                refine r_S (As := [.int x60]) (rest := [.ref h0]) C hM (c_X10_signToken l D H0 (pI Sa 1003 h0 x55) kc ns x60) i_X10_signToken m_X10_58 rfl hl.1 rfl (Nat.le_of_ble_eq_true rfl) ⟨by decide, by decide⟩ ⟨by decide, by decide⟩ dX10_advance_111 (fun x75 S72 k73 n74 H locs p76 hM => ?_)
                obtain ⟨rfl, rfl, rfl, hx75⟩ := p76
                refine W.eq (g2 := F0 m 114 ls [.int x75, .ref h0]) rfl ?_
                refine r_put C hM kh0 f_X10_13 (fun r h => by cases h; rfl) rfl rfl (mPut.I (ci := 10) (k := 2) rfl) dX10_advance_114 (fun H locs hM => ?_)
                have hM : mH D H0 (pI (pI Sa 1003 h0 x55) 1002 h0 x75) kc ns H locs := hM
                have hI := hI.fe (fEq.I (S := (pI Sa 1003 h0 x55)) (f := 1002) (a := h0) (v := x75) (by decide))
                have hF := hF.trans (fEq.I (S := (pI Sa 1003 h0 x55)) (f := 1002) (a := h0) (v := x75) (by decide))
                refine lv_aload_n hx hb dX10_advance_117 rfl (lv_at hl 1 rfl) ?_
                refine lv_dup hx hb dX10_advance_118 rfl ?_
                refine r_get (ci := 10) (k := 1) (v := .int (mI (pI (pI Sa 1003 h0 x55) 1002 h0 x75) 1001 h0)) C hM kh0 f_X10_7 rfl dX10_advance_119 ?_
                refine lv_topi (fun x77 ex77 => ?_)
                have gx77 : x77 = x1 := ex77.trans (ex1.symm)
                have hx77 : x77.toInt = x1.toInt := by rw [gx77]
                refine lv_iconst (v := 1) hx hb dX10_advance_122 (by decide) ?_
                refine lv_iadd hx hb dX10_advance_123 ?_
                refine lv_topi (fun x78 ex78 => ?_)
                try (have tx78 := addI (a := x77) (b := 1) (by omega) (by omega); rw [← ex78] at tx78)
                refine r_put C hM kh0 f_X10_7 (fun r h => by cases h; rfl) rfl rfl (mPut.I (ci := 10) (k := 1) rfl) dX10_advance_124 (fun H locs hM => ?_)
                have hM : mH D H0 (pI (pI (pI Sa 1003 h0 x55) 1002 h0 x75) 1001 h0 x78) kc ns H locs := hM
                have hI := hI.fe (fEq.I (S := (pI (pI Sa 1003 h0 x55) 1002 h0 x75)) (f := 1001) (a := h0) (v := x78) (by decide))
                have hF := hF.trans (fEq.I (S := (pI (pI Sa 1003 h0 x55) 1002 h0 x75)) (f := 1001) (a := h0) (v := x78) (by decide))
                exact r_retV C hr hlk hM (⟨rfl, rfl, hF, trivial⟩) dX10_advance_127
              · have tc71 := ltF c71
                refine lv_iconst (v := 0) hx hb dX10_advance_106 (by decide) ?_
                refine lv_goto (tgt := 114) hx hb dX10_advance_107 (by decide) ?_
                refine r_put C hM kh0 f_X10_13 (fun r h => by cases h; rfl) rfl rfl (mPut.I (ci := 10) (k := 2) rfl) dX10_advance_114 (fun H locs hM => ?_)
                have hM : mH D H0 (pI (pI Sa 1003 h0 x55) 1002 h0 0) kc ns H locs := hM
                have hI := hI.fe (fEq.I (S := (pI Sa 1003 h0 x55)) (f := 1002) (a := h0) (v := 0) (by decide))
                have hF := hF.trans (fEq.I (S := (pI Sa 1003 h0 x55)) (f := 1002) (a := h0) (v := 0) (by decide))
                refine lv_aload_n hx hb dX10_advance_117 rfl (lv_at hl 1 rfl) ?_
                refine lv_dup hx hb dX10_advance_118 rfl ?_
                refine r_get (ci := 10) (k := 1) (v := .int (mI (pI (pI Sa 1003 h0 x55) 1002 h0 0) 1001 h0)) C hM kh0 f_X10_7 rfl dX10_advance_119 ?_
                refine lv_topi (fun x79 ex79 => ?_)
                have gx79 : x79 = x1 := ex79.trans (ex1.symm)
                have hx79 : x79.toInt = x1.toInt := by rw [gx79]
                refine lv_iconst (v := 1) hx hb dX10_advance_122 (by decide) ?_
                refine lv_iadd hx hb dX10_advance_123 ?_
                refine lv_topi (fun x80 ex80 => ?_)
                try (have tx80 := addI (a := x79) (b := 1) (by omega) (by omega); rw [← ex80] at tx80)
                refine r_put C hM kh0 f_X10_7 (fun r h => by cases h; rfl) rfl rfl (mPut.I (ci := 10) (k := 1) rfl) dX10_advance_124 (fun H locs hM => ?_)
                have hM : mH D H0 (pI (pI (pI Sa 1003 h0 x55) 1002 h0 0) 1001 h0 x80) kc ns H locs := hM
                have hI := hI.fe (fEq.I (S := (pI (pI Sa 1003 h0 x55) 1002 h0 0)) (f := 1001) (a := h0) (v := x80) (by decide))
                have hF := hF.trans (fEq.I (S := (pI (pI Sa 1003 h0 x55) 1002 h0 0)) (f := 1001) (a := h0) (v := x80) (by decide))
                exact r_retV C hr hlk hM (⟨rfl, rfl, hF, trivial⟩) dX10_advance_127
            · have tc68 := eqT c68
              refine lv_aload_n hx hb dX10_advance_84 rfl (lv_at hl 1 rfl) ?_
              refine r_V (As := []) (rest := []) (ci := 10) C hM (c_X10_takeText l D H0 (pI Sa 1003 h0 x55) kc ns h0 hI kh0) i_X10_takeText m_X10_55 kh0 rfl rfl rfl hl.1 rfl (Nat.le_of_ble_eq_true rfl) ⟨by decide, by decide⟩ ⟨by decide, by decide⟩ dX10_advance_85 (fun u84 S81 k82 n83 H locs p85 hM => ?_)
              obtain ⟨rfl, rfl, hf9, hu84⟩ := p85
              have hF := hF.trans hf9
              have hI := hI.fe hf9
              have kh0 : mK S81 h0 = 11 := (congrFun (hf9.1) h0).trans kh0
              have kq2 : mK S81 q2 = 10 := (congrFun (hf9.1) q2).trans kq2
              have v86 : mR S81 1000 h0 = some q2 := (congrFun (congrFun hf9.2.1 1000) h0).trans (eq2)
              refine W.eq (g2 := F0 m 88 ls []) rfl ?_
              refine lv_goto (tgt := 127) hx hb dX10_advance_88 (by decide) ?_
              exact r_retV C hr hlk hM (⟨rfl, rfl, hF, trivial⟩) dX10_advance_127
          · have tc67 := eqF c67
            refine lv_aload_n hx hb dX10_advance_71 rfl (lv_at hl 1 rfl) ?_
            refine r_V (As := []) (rest := []) (ci := 10) C hM (c_X10_takeWord l D H0 (pI Sa 1003 h0 x55) kc ns h0 hI kh0) i_X10_takeWord m_X10_52 kh0 rfl rfl rfl hl.1 rfl (Nat.le_of_ble_eq_true rfl) ⟨by decide, by decide⟩ ⟨by decide, by decide⟩ dX10_advance_72 (fun u90 S87 k88 n89 H locs p91 hM => ?_)
            obtain ⟨rfl, rfl, hf9, hu90⟩ := p91
            have hF := hF.trans hf9
            have hI := hI.fe hf9
            have kh0 : mK S87 h0 = 11 := (congrFun (hf9.1) h0).trans kh0
            have kq2 : mK S87 q2 = 10 := (congrFun (hf9.1) q2).trans kq2
            have v92 : mR S87 1000 h0 = some q2 := (congrFun (congrFun hf9.2.1 1000) h0).trans (eq2)
            refine W.eq (g2 := F0 m 75 ls []) rfl ?_
            refine lv_goto (tgt := 127) hx hb dX10_advance_75 (by decide) ?_
            exact r_retV C hr hlk hM (⟨rfl, rfl, hF, trivial⟩) dX10_advance_127
        · have tc54 := eqF c54
          refine lv_aload_n hx hb dX10_advance_31 rfl (lv_at hl 0 rfl) ?_
          refine lv_dup hx hb dX10_advance_32 rfl ?_
          refine r_get (ci := 10) (k := 1) (v := .int (mI Sa 1001 h0)) C hM kh0 f_X10_7 rfl dX10_advance_33 ?_
          refine lv_topi (fun x93 ex93 => ?_)
          have gx93 : x93 = x1 := ex93.trans (ex1.symm)
          have hx93 : x93.toInt = x1.toInt := by rw [gx93]
          refine lv_iconst (v := 1) hx hb dX10_advance_36 (by decide) ?_
          refine lv_iadd hx hb dX10_advance_37 ?_
          refine lv_topi (fun x94 ex94 => ?_)
          try (have tx94 := addI (a := x93) (b := 1) (by omega) (by omega); rw [← ex94] at tx94)
          refine r_put C hM kh0 f_X10_7 (fun r h => by cases h; rfl) rfl rfl (mPut.I (ci := 10) (k := 1) rfl) dX10_advance_38 (fun H locs hM => ?_)
          have hM : mH D H0 (pI Sa 1001 h0 x94) kc ns H locs := hM
          have hI := hI.fe (fEq.I (S := Sa) (f := 1001) (a := h0) (v := x94) (by decide))
          have hF := hF.trans (fEq.I (S := Sa) (f := 1001) (a := h0) (v := x94) (by decide))
          refine lv_goto (tgt := 0) hx hb dX10_advance_41 (by decide) ?_
          have h91 : (mI (pI Sa 1001 h0 x94) 1001 h0).toInt = (mI Sa 1001 h0).toInt + 1 := by rw [show mI (pI Sa 1001 h0 x94) 1001 h0 = _ from up2_eq]; have h90 := rngI (mI Sa 1001 h0); subst_vars; exact addI (by omega) (by omega)
          have h92 : (mI Sa 1001 h0).toInt < 1600 := by subst_vars; omega
          exact ih0 (pI Sa 1001 h0 x94) _ _ _ (hF) (by omega) (lv_sub hl [0] rfl) hM
  exact loop0 (((1601 - (mI S 1001 h0).toInt).toNat) + 1) S _ _ _ (hF) (by omega) (lv_sub hl [0] rfl) hM
