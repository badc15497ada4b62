set_option maxHeartbeats 4000000 in
set_option maxRecDepth 100000 in
theorem c_X9_byteAt (l : Launch) (D : gD) (H0 : Heap) (S : Mem) (kc ns : Nat) (h0 : Nat) (i0 : Int32) {c : Nat} {tl : Int} {rho : Nat} (hI : CI x0 c tl rho S) (kh0 : mK S h0 = 10) : Met l yX9_byteAt (wsU yX9_byteAt cX9_byteAt 2 (some .int)) ({ frames := 0, cells := 0, slots := 0, locals := 0 } : Room) (mP D H0 S kc ns [.ref h0, .int i0]) (mQ D H0 gI (fun r S1 k1 n1 => S1 = S ∧ k1 = kc ∧ n1 = ns ∧ True)) 0 0 (mF H0) := by
  refine r_met (own := RX9) (by decide +kernel) rfl (Nat.le_of_ble_eq_true rfl) ?_
  intro p e s m args below meth c C hr hlk hnm H ls hl hM
  obtain ⟨hx, hb, hml, hown, hts, -, -⟩ := id C
  have hl : lv_has ls 2 [(0, .ref h0), (1, .int i0)] := hl
  have t_m1 : (-1 : Int32).toInt = -1 := by decide
  have t_0 : (0 : Int32).toInt = 0 := by decide
  have t_255 : (255 : Int32).toInt = 255 := by decide
  refine lv_iload_n hx hb dX9_byteAt_0 rfl (lv_at hl 1 rfl) ?_
  refine lv_if_lt (tgt := 12) hx hb dX9_byteAt_1 (by decide) (fun c1 => ?_) (fun c1 => ?_)
  · have tc1 := ltT c1
    refine lv_iconst (v := -1) hx hb dX9_byteAt_12 (by decide) ?_
    refine lv_goto (tgt := 26) hx hb dX9_byteAt_13 (by decide) ?_
    exact r_retI C hr hlk hM (⟨rfl, rfl, rfl, trivial⟩) dX9_byteAt_26
  · have tc1 := ltF c1
    refine lv_iload_n hx hb dX9_byteAt_4 rfl (lv_at hl 1 rfl) ?_
    refine lv_aload_n hx hb dX9_byteAt_5 rfl (lv_at hl 0 rfl) ?_
    refine r_get (ci := 9) (k := 1) (v := .int (mI S 901 h0)) C hM kh0 f_X9_15 rfl dX9_byteAt_6 ?_
    refine lv_topi (fun x2 ex2 => ?_)
    have fx2 := NI.f901 hI.2 kh0
    rw [← ex2] at fx2
    refine lv_icmp_lt (tgt := 16) hx hb dX9_byteAt_9 (by decide) (fun c3 => ?_) (fun c3 => ?_)
    · have tc3 := ltT c3
      refine lv_aload_n hx hb dX9_byteAt_16 rfl (lv_at hl 0 rfl) ?_
      obtain ⟨q4, eq4, kq4, nq4⟩ := TI.nn hI.1 (ci := 9) (k := 0) kh0
      refine r_get (ci := 9) (k := 0) (v := .ref q4) C hM kh0 f_X9_9 (congrArg va_rf eq4) dX9_byteAt_17 ?_
      refine lv_iload_n hx hb dX9_byteAt_20 rfl (lv_at hl 1 rfl) ?_
      refine r_bald C hM kq4 (inI (by omega) (by rw [nq4 (by decide)]; show _ < (1600 : Int); omega)) dX9_byteAt_21 ?_
      refine lv_topi (fun x5 ex5 => ?_)
      refine lv_sipush (v := 255) hx hb dX9_byteAt_22 (by decide) ?_
      refine lv_iand hx hb dX9_byteAt_25 ?_
      refine lv_topi (fun x6 ex6 => ?_)
      exact r_retI C hr hlk hM (⟨rfl, rfl, rfl, trivial⟩) dX9_byteAt_26
    · have tc3 := ltF c3
      refine lv_iconst (v := -1) hx hb dX9_byteAt_12 (by decide) ?_
      refine lv_goto (tgt := 26) hx hb dX9_byteAt_13 (by decide) ?_
      exact r_retI C hr hlk hM (⟨rfl, rfl, rfl, trivial⟩) dX9_byteAt_26
set_option maxHeartbeats 4000000 in
set_option maxRecDepth 100000 in
theorem c_X10_isBlank (l : Launch) (D : gD) (H0 : Heap) (S : Mem) (kc ns : Nat) (i0 : Int32) : Met l yX10_isBlank (wsU yX10_isBlank cX10_isBlank 1 (some .boolean)) ({ frames := 0, cells := 0, slots := 0, locals := 0 } : Room) (mP D H0 S kc ns [.int i0]) (mQ D H0 gI (fun r S1 k1 n1 => S1 = S ∧ k1 = kc ∧ n1 = ns ∧ (r = 0 ∨ r = 1))) 0 0 (mF H0) := by
  refine r_met (own := RX10) (by decide +kernel) rfl (Nat.le_of_ble_eq_true rfl) ?_
  intro p e s m args below meth c C hr hlk hnm H ls hl hM
  obtain ⟨hx, hb, hml, hown, hts, -, -⟩ := id C
  have hl : lv_has ls 1 [(0, .int i0)] := hl
  have t_0 : (0 : Int32).toInt = 0 := by decide
  have t_1 : (1 : Int32).toInt = 1 := by decide
  have t_10 : (10 : Int32).toInt = 10 := by decide
  have t_32 : (32 : Int32).toInt = 32 := by decide
  refine lv_iload_n hx hb dX10_isBlank_0 rfl (lv_at hl 0 rfl) ?_
  refine lv_bipush (v := 32) hx hb dX10_isBlank_1 (by decide) ?_
  refine lv_icmp_eq (tgt := 12) hx hb dX10_isBlank_3 (by decide) (fun c1 => ?_) (fun c1 => ?_)
  · have tc1 := eqT c1
    refine lv_iconst (v := 1) hx hb dX10_isBlank_12 (by decide) ?_
    refine lv_goto (tgt := 17) hx hb dX10_isBlank_13 (by decide) ?_
    exact r_retZ C hr hlk rfl hM (⟨rfl, rfl, rfl, by decide⟩) dX10_isBlank_17
  · have tc1 := eqF c1
    refine lv_iload_n hx hb dX10_isBlank_6 rfl (lv_at hl 0 rfl) ?_
    refine lv_bipush (v := 10) hx hb dX10_isBlank_7 (by decide) ?_
    refine lv_icmp_ne (tgt := 16) hx hb dX10_isBlank_9 (by decide) (fun c2 => ?_) (fun c2 => ?_)
    · have tc2 := eqF c2
      refine lv_iconst (v := 0) hx hb dX10_isBlank_16 (by decide) ?_
      exact r_retZ C hr hlk rfl hM (⟨rfl, rfl, rfl, by decide⟩) dX10_isBlank_17
    · have tc2 := eqT c2
      refine lv_iconst (v := 1) hx hb dX10_isBlank_12 (by decide) ?_
      refine lv_goto (tgt := 17) hx hb dX10_isBlank_13 (by decide) ?_
      exact r_retZ C hr hlk rfl hM (⟨rfl, rfl, rfl, by decide⟩) dX10_isBlank_17
set_option maxHeartbeats 4000000 in
set_option maxRecDepth 100000 in
theorem c_X10_isLetter (l : Launch) (D : gD) (H0 : Heap) (S : Mem) (kc ns : Nat) (i0 : Int32) : Met l yX10_isLetter (wsU yX10_isLetter cX10_isLetter 1 (some .boolean)) ({ frames := 0, cells := 0, slots := 0, locals := 0 } : Room) (mP D H0 S kc ns [.int i0]) (mQ D H0 gI (fun r S1 k1 n1 => S1 = S ∧ k1 = kc ∧ n1 = ns ∧ (r = 0 ∨ r = 1))) 0 0 (mF H0) := by
  refine r_met (own := RX10) (by decide +kernel) rfl (Nat.le_of_ble_eq_true rfl) ?_
  intro p e s m args below meth c C hr hlk hnm H ls hl hM
  obtain ⟨hx, hb, hml, hown, hts, -, -⟩ := id C
  have hl : lv_has ls 1 [(0, .int i0)] := hl
  have t_0 : (0 : Int32).toInt = 0 := by decide
  have t_1 : (1 : Int32).toInt = 1 := by decide
  have t_97 : (97 : Int32).toInt = 97 := by decide
  have t_122 : (122 : Int32).toInt = 122 := by decide
  refine lv_iload_n hx hb dX10_isLetter_0 rfl (lv_at hl 0 rfl) ?_
  refine lv_bipush (v := 97) hx hb dX10_isLetter_1 (by decide) ?_
  refine lv_icmp_lt (tgt := 16) hx hb dX10_isLetter_3 (by decide) (fun c1 => ?_) (fun c1 => ?_)
  · have tc1 := ltT c1
    refine lv_iconst (v := 0) hx hb dX10_isLetter_16 (by decide) ?_
    exact r_retZ C hr hlk rfl hM (⟨rfl, rfl, rfl, by decide⟩) dX10_isLetter_17
  · have tc1 := ltF c1
    refine lv_iload_n hx hb dX10_isLetter_6 rfl (lv_at hl 0 rfl) ?_
    refine lv_bipush (v := 122) hx hb dX10_isLetter_7 (by decide) ?_
    refine lv_icmp_gt (tgt := 16) hx hb dX10_isLetter_9 (by decide) (fun c2 => ?_) (fun c2 => ?_)
    · have tc2 := ltT c2
      refine lv_iconst (v := 0) hx hb dX10_isLetter_16 (by decide) ?_
      exact r_retZ C hr hlk rfl hM (⟨rfl, rfl, rfl, by decide⟩) dX10_isLetter_17
    · have tc2 := ltF c2
      refine lv_iconst (v := 1) hx hb dX10_isLetter_12 (by decide) ?_
      refine lv_goto (tgt := 17) hx hb dX10_isLetter_13 (by decide) ?_
      exact r_retZ C hr hlk rfl hM (⟨rfl, rfl, rfl, by decide⟩) dX10_isLetter_17
set_option maxHeartbeats 4000000 in
set_option maxRecDepth 100000 in
theorem c_X10_isTextByte (l : Launch) (D : gD) (H0 : Heap) (S : Mem) (kc ns : Nat) (i0 : Int32) : Met l yX10_isTextByte (wsU yX10_isTextByte cX10_isTextByte 1 (some .boolean)) ({ frames := 0, cells := 0, slots := 0, locals := 0 } : Room) (mP D H0 S kc ns [.int i0]) (mQ D H0 gI (fun r S1 k1 n1 => S1 = S ∧ k1 = kc ∧ n1 = ns ∧ (r = 0 ∨ r = 1))) 0 0 (mF H0) := by
  refine r_met (own := RX10) (by decide +kernel) rfl (Nat.le_of_ble_eq_true rfl) ?_
  intro p e s m args below meth c C hr hlk hnm H ls hl hM
  obtain ⟨hx, hb, hml, hown, hts, -, -⟩ := id C
  have hl : lv_has ls 1 [(0, .int i0)] := hl
  have t_0 : (0 : Int32).toInt = 0 := by decide
  have t_1 : (1 : Int32).toInt = 1 := by decide
  have t_32 : (32 : Int32).toInt = 32 := by decide
  have t_34 : (34 : Int32).toInt = 34 := by decide
  have t_126 : (126 : Int32).toInt = 126 := by decide
  refine lv_iload_n hx hb dX10_isTextByte_0 rfl (lv_at hl 0 rfl) ?_
  refine lv_bipush (v := 32) hx hb dX10_isTextByte_1 (by decide) ?_
  refine lv_icmp_lt (tgt := 22) hx hb dX10_isTextByte_3 (by decide) (fun c1 => ?_) (fun c1 => ?_)
  · have tc1 := ltT c1
    refine lv_iconst (v := 0) hx hb dX10_isTextByte_22 (by decide) ?_
    exact r_retZ C hr hlk rfl hM (⟨rfl, rfl, rfl, by decide⟩) dX10_isTextByte_23
  · have tc1 := ltF c1
    refine lv_iload_n hx hb dX10_isTextByte_6 rfl (lv_at hl 0 rfl) ?_
    refine lv_bipush (v := 126) hx hb dX10_isTextByte_7 (by decide) ?_
    refine lv_icmp_gt (tgt := 22) hx hb dX10_isTextByte_9 (by decide) (fun c2 => ?_) (fun c2 => ?_)
    · have tc2 := ltT c2
      refine lv_iconst (v := 0) hx hb dX10_isTextByte_22 (by decide) ?_
      exact r_retZ C hr hlk rfl hM (⟨rfl, rfl, rfl, by decide⟩) dX10_isTextByte_23
    · have tc2 := ltF c2
      refine lv_iload_n hx hb dX10_isTextByte_12 rfl (lv_at hl 0 rfl) ?_
      refine lv_bipush (v := 34) hx hb dX10_isTextByte_13 (by decide) ?_
      refine lv_icmp_eq (tgt := 22) hx hb dX10_isTextByte_15 (by decide) (fun c3 => ?_) (fun c3 => ?_)
      · have tc3 := eqT c3
        refine lv_iconst (v := 0) hx hb dX10_isTextByte_22 (by decide) ?_
        exact r_retZ C hr hlk rfl hM (⟨rfl, rfl, rfl, by decide⟩) dX10_isTextByte_23
      · have tc3 := eqF c3
        refine lv_iconst (v := 1) hx hb dX10_isTextByte_18 (by decide) ?_
        refine lv_goto (tgt := 23) hx hb dX10_isTextByte_19 (by decide) ?_
        exact r_retZ C hr hlk rfl hM (⟨rfl, rfl, rfl, by decide⟩) dX10_isTextByte_23
set_option maxHeartbeats 4000000 in
set_option maxRecDepth 100000 in
theorem c_X10_signToken (l : Launch) (D : gD) (H0 : Heap) (S : Mem) (kc ns : Nat) (i0 : Int32) : Met l yX10_signToken (wsU yX10_signToken cX10_signToken 1 (some .int)) ({ frames := 0, cells := 0, slots := 0, locals := 0 } : Room) (mP D H0 S kc ns [.int i0]) (mQ D H0 gI (fun r S1 k1 n1 => S1 = S ∧ k1 = kc ∧ n1 = ns ∧ True)) 0 0 (mF H0) := by
  refine r_met (own := RX10) (by decide +kernel) rfl (Nat.le_of_ble_eq_true rfl) ?_
  intro p e s m args below meth c C hr hlk hnm H ls hl hM
  obtain ⟨hx, hb, hml, hown, hts, -, -⟩ := id C
  have hl : lv_has ls 1 [(0, .int i0)] := hl
  have t_0 : (0 : Int32).toInt = 0 := by decide
  have t_3 : (3 : Int32).toInt = 3 := by decide
  have t_4 : (4 : Int32).toInt = 4 := by decide
  have t_5 : (5 : Int32).toInt = 5 := by decide
  have t_6 : (6 : Int32).toInt = 6 := by decide
  have t_7 : (7 : Int32).toInt = 7 := by decide
  refine lv_iload_n hx hb dX10_signToken_0 rfl (lv_at hl 0 rfl) ?_
  by_cases h1_0 : i0.toInt = 33
  · refine lv_tableIn (off := 53) (tgt := 54) hx hb dX10_signToken_1 (by omega) (by omega) (by rw [h1_0]; rfl) (by decide) ?_
    refine lv_iconst (v := 4) hx hb dX10_signToken_54 (by decide) ?_
    exact r_retI C hr hlk hM (⟨rfl, rfl, rfl, trivial⟩) dX10_signToken_55
  by_cases h1_1 : i0.toInt = 34
  · refine lv_tableIn (off := 60) (tgt := 61) hx hb dX10_signToken_1 (by omega) (by omega) (by rw [h1_1]; rfl) (by decide) ?_
    refine lv_bipush (v := 7) hx hb dX10_signToken_61 (by decide) ?_
    exact r_retI C hr hlk hM (⟨rfl, rfl, rfl, trivial⟩) dX10_signToken_63
  by_cases h1_2 : i0.toInt = 35
  · refine lv_tableIn (off := 51) (tgt := 52) hx hb dX10_signToken_1 (by omega) (by omega) (by rw [h1_2]; rfl) (by decide) ?_
    refine lv_iconst (v := 3) hx hb dX10_signToken_52 (by decide) ?_
    exact r_retI C hr hlk hM (⟨rfl, rfl, rfl, trivial⟩) dX10_signToken_53
  by_cases h1_3 : i0.toInt = 36
  · refine lv_tableIn (off := 60) (tgt := 61) hx hb dX10_signToken_1 (by omega) (by omega) (by rw [h1_3]; rfl) (by decide) ?_
    refine lv_bipush (v := 7) hx hb dX10_signToken_61 (by decide) ?_
    exact r_retI C hr hlk hM (⟨rfl, rfl, rfl, trivial⟩) dX10_signToken_63
  by_cases h1_4 : i0.toInt = 37
  · refine lv_tableIn (off := 60) (tgt := 61) hx hb dX10_signToken_1 (by omega) (by omega) (by rw [h1_4]; rfl) (by decide) ?_
    refine lv_bipush (v := 7) hx hb dX10_signToken_61 (by decide) ?_
    exact r_retI C hr hlk hM (⟨rfl, rfl, rfl, trivial⟩) dX10_signToken_63
  by_cases h1_5 : i0.toInt = 38
  · refine lv_tableIn (off := 60) (tgt := 61) hx hb dX10_signToken_1 (by omega) (by omega) (by rw [h1_5]; rfl) (by decide) ?_
    refine lv_bipush (v := 7) hx hb dX10_signToken_61 (by decide) ?_
    exact r_retI C hr hlk hM (⟨rfl, rfl, rfl, trivial⟩) dX10_signToken_63
  by_cases h1_6 : i0.toInt = 39
  · refine lv_tableIn (off := 60) (tgt := 61) hx hb dX10_signToken_1 (by omega) (by omega) (by rw [h1_6]; rfl) (by decide) ?_
    refine lv_bipush (v := 7) hx hb dX10_signToken_61 (by decide) ?_
    exact r_retI C hr hlk hM (⟨rfl, rfl, rfl, trivial⟩) dX10_signToken_63
  by_cases h1_7 : i0.toInt = 40
  · refine lv_tableIn (off := 55) (tgt := 56) hx hb dX10_signToken_1 (by omega) (by omega) (by rw [h1_7]; rfl) (by decide) ?_
    refine lv_iconst (v := 5) hx hb dX10_signToken_56 (by decide) ?_
    exact r_retI C hr hlk hM (⟨rfl, rfl, rfl, trivial⟩) dX10_signToken_57
  by_cases h1_8 : i0.toInt = 41
  · refine lv_tableIn (off := 57) (tgt := 58) hx hb dX10_signToken_1 (by omega) (by omega) (by rw [h1_8]; rfl) (by decide) ?_
    refine lv_bipush (v := 6) hx hb dX10_signToken_58 (by decide) ?_
    exact r_retI C hr hlk hM (⟨rfl, rfl, rfl, trivial⟩) dX10_signToken_60
  refine lv_tableOut (tgt := 61) hx hb dX10_signToken_1 (by omega) (by decide) ?_
  refine lv_bipush (v := 7) hx hb dX10_signToken_61 (by decide) ?_
  exact r_retI C hr hlk hM (⟨rfl, rfl, rfl, trivial⟩) dX10_signToken_63
