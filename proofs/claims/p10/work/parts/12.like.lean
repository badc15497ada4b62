set_option maxHeartbeats 4000000 in
set_option maxRecDepth 100000 in
theorem c_J6_bitCount_0f7a4 (l : Launch) (D : gD) (H0 : gB) (S : Mem) (kc ns : Nat) (i0 : Int32) : Met l yJ6_bitCount_0f7a4 (wsU yJ6_bitCount_0f7a4 cJ6_bitCount_0f7a4 1 (some .int)) ({ frames := 0, cells := 0, slots := 0, locals := 0 } : Room) (mP D H0 S kc ns [.int i0]) (mQ D H0 gI (fun r S1 k1 n1 => S = S1 ∧ kc = k1 ∧ ns = n1 ∧ True)) 0 0 (mF H0) := by
  refine r_met (own := "java/lang/Integer") (by decide +kernel) rfl (Nat.le_of_ble_eq_true rfl) ?_
  intro p e s m args below meth c C hr hlk hnm H ls hl hM
  obtain ⟨hx, hb, hml, hown, hts, -, -⟩ := id C
  have hl : lv_has ls 1 [(0, .int i0)] := hl
  have t_0 : (0 : Int32).toInt = 0 := by decide
  have t_1 : (1 : Int32).toInt = 1 := by decide
  have t_2 : (2 : Int32).toInt = 2 := by decide
  have t_4 : (4 : Int32).toInt = 4 := by decide
  have t_8 : (8 : Int32).toInt = 8 := by decide
  have t_16 : (16 : Int32).toInt = 16 := by decide
  have t_63 : (63 : Int32).toInt = 63 := by decide
  refine lv_iload_n hx hb dJ6_bitCount_0f7a4_0 rfl (lv_at hl 0 rfl) ?_
  refine lv_iload_n hx hb dJ6_bitCount_0f7a4_1 rfl (lv_at hl 0 rfl) ?_
  refine lv_iconst (v := 1) hx hb dJ6_bitCount_0f7a4_2 (by decide) ?_
  refine lv_iushr hx hb dJ6_bitCount_0f7a4_3 rfl ?_
  refine lv_topi (fun xv1 exv1 => ?_)
  refine lv_ldcw hx hb hown (hts _ q_java_lang_Integer_265) dJ6_bitCount_0f7a4_4 ?_
  refine lv_iand hx hb dJ6_bitCount_0f7a4_7 ?_
  refine lv_topi (fun xv2 exv2 => ?_)
  refine lv_isub hx hb dJ6_bitCount_0f7a4_8 ?_
  refine lv_topi (fun xv3 exv3 => ?_)
  refine lv_istore_n (lv' := [(0, .int xv3)]) hx hb dJ6_bitCount_0f7a4_9 rfl hl (by decide) rfl (fun ls hl => ?_)
  refine lv_iload_n hx hb dJ6_bitCount_0f7a4_10 rfl (lv_at hl 0 rfl) ?_
  refine lv_ldcw hx hb hown (hts _ q_java_lang_Integer_266) dJ6_bitCount_0f7a4_11 ?_
  refine lv_iand hx hb dJ6_bitCount_0f7a4_14 ?_
  refine lv_topi (fun xv4 exv4 => ?_)
  refine lv_iload_n hx hb dJ6_bitCount_0f7a4_15 rfl (lv_at hl 0 rfl) ?_
  refine lv_iconst (v := 2) hx hb dJ6_bitCount_0f7a4_16 (by decide) ?_
  refine lv_iushr hx hb dJ6_bitCount_0f7a4_17 rfl ?_
  refine lv_topi (fun xv5 exv5 => ?_)
  refine lv_ldcw hx hb hown (hts _ q_java_lang_Integer_266) dJ6_bitCount_0f7a4_18 ?_
  refine lv_iand hx hb dJ6_bitCount_0f7a4_21 ?_
  refine lv_topi (fun xv6 exv6 => ?_)
  refine lv_iadd hx hb dJ6_bitCount_0f7a4_22 ?_
  refine lv_topi (fun xv7 exv7 => ?_)
  refine lv_istore_n (lv' := [(0, .int xv7)]) hx hb dJ6_bitCount_0f7a4_23 rfl hl (by decide) rfl (fun ls hl => ?_)
  refine lv_iload_n hx hb dJ6_bitCount_0f7a4_24 rfl (lv_at hl 0 rfl) ?_
  refine lv_iload_n hx hb dJ6_bitCount_0f7a4_25 rfl (lv_at hl 0 rfl) ?_
  refine lv_iconst (v := 4) hx hb dJ6_bitCount_0f7a4_26 (by decide) ?_
  refine lv_iushr hx hb dJ6_bitCount_0f7a4_27 rfl ?_
  refine lv_topi (fun xv8 exv8 => ?_)
  refine lv_iadd hx hb dJ6_bitCount_0f7a4_28 ?_
  refine lv_topi (fun xv9 exv9 => ?_)
  refine lv_ldcw hx hb hown (hts _ q_java_lang_Integer_267) dJ6_bitCount_0f7a4_29 ?_
  refine lv_iand hx hb dJ6_bitCount_0f7a4_32 ?_
  refine lv_topi (fun xv10 exv10 => ?_)
  refine lv_istore_n (lv' := [(0, .int xv10)]) hx hb dJ6_bitCount_0f7a4_33 rfl hl (by decide) rfl (fun ls hl => ?_)
  refine lv_iload_n hx hb dJ6_bitCount_0f7a4_34 rfl (lv_at hl 0 rfl) ?_
  refine lv_iload_n hx hb dJ6_bitCount_0f7a4_35 rfl (lv_at hl 0 rfl) ?_
  refine lv_bipush (v := 8) hx hb dJ6_bitCount_0f7a4_36 (by decide) ?_
  refine lv_iushr hx hb dJ6_bitCount_0f7a4_38 rfl ?_
  refine lv_topi (fun xv11 exv11 => ?_)
  refine lv_iadd hx hb dJ6_bitCount_0f7a4_39 ?_
  refine lv_topi (fun xv12 exv12 => ?_)
  refine lv_istore_n (lv' := [(0, .int xv12)]) hx hb dJ6_bitCount_0f7a4_40 rfl hl (by decide) rfl (fun ls hl => ?_)
  refine lv_iload_n hx hb dJ6_bitCount_0f7a4_41 rfl (lv_at hl 0 rfl) ?_
  refine lv_iload_n hx hb dJ6_bitCount_0f7a4_42 rfl (lv_at hl 0 rfl) ?_
  refine lv_bipush (v := 16) hx hb dJ6_bitCount_0f7a4_43 (by decide) ?_
  refine lv_iushr hx hb dJ6_bitCount_0f7a4_45 rfl ?_
  refine lv_topi (fun xv13 exv13 => ?_)
  refine lv_iadd hx hb dJ6_bitCount_0f7a4_46 ?_
  refine lv_topi (fun xv14 exv14 => ?_)
  refine lv_istore_n (lv' := [(0, .int xv14)]) hx hb dJ6_bitCount_0f7a4_47 rfl hl (by decide) rfl (fun ls hl => ?_)
  refine lv_iload_n hx hb dJ6_bitCount_0f7a4_48 rfl (lv_at hl 0 rfl) ?_
  refine lv_bipush (v := 63) hx hb dJ6_bitCount_0f7a4_49 (by decide) ?_
  refine lv_iand hx hb dJ6_bitCount_0f7a4_51 ?_
  refine lv_topi (fun xv15 exv15 => ?_)
  exact r_retI C hr hlk hM (⟨rfl, rfl, rfl, trivial⟩) dJ6_bitCount_0f7a4_52
set_option maxHeartbeats 4000000 in
set_option maxRecDepth 100000 in
theorem c_X2_change (l : Launch) (D : gD) (H0 : gB) (S : Mem) (kc ns : Nat) (h0 h1 : Nat) {u : Nat} {tl : Int} {rho : Nat × Nat} (hI : CI x0 u tl rho S) (kh0 : mK S h0 = 6) (kh1 : mK S h1 = 6) : Met l yX2_change (wsU yX2_change cX2_change 2 (some .int)) ({ frames := 1, cells := 0, slots := 0, locals := 21 } : Room) (mP D H0 S kc ns [.ref h0, .ref h1]) (mQ D H0 gI (fun r S1 k1 n1 => S = S1 ∧ kc = k1 ∧ ns = n1 ∧ True)) 0 0 (mF H0) := by
  refine r_met (own := RX2) (by decide +kernel) rfl (Nat.le_of_ble_eq_true rfl) ?_
  intro p e s m args below meth c C hr hlk hnm H ls hl hM
  obtain ⟨hx, hb, hml, hown, hts, -, -⟩ := id C
  have hl : lv_has ls 2 [(0, .ref h0), (1, .ref h1)] := hl
  have t_0 : (0 : Int32).toInt = 0 := by decide
  have t_1 : (1 : Int32).toInt = 1 := by decide
  have t_2 : (2 : Int32).toInt = 2 := by decide
  have t_4 : (4 : Int32).toInt = 4 := by decide
  refine lv_aload_n hx hb dX2_change_0 rfl (lv_at hl 0 rfl) ?_
  refine r_getN (ci := 5) (k := 2) (v := .long (mL S 502 h0)) C hM kh0 f_X2_81 rfl dX2_change_1 ?_
  refine lv_topl (fun lv1 elv1 => ?_)
  refine lv_aload_n hx hb dX2_change_4 rfl (lv_at hl 1 rfl) ?_
  refine r_getN (ci := 5) (k := 2) (v := .long (mL S 502 h1)) C hM kh1 f_X2_81 rfl dX2_change_5 ?_
  refine lv_topl (fun lv2 elv2 => ?_)
  refine W.lcmp hx hb dX2_change_8 ?_
  refine lv_topi (fun xv3 exv3 => ?_)
  refine lv_if_ne (tgt := 16) hx hb dX2_change_9 (by decide) (fun cv4 => ?_) (fun cv4 => ?_)
  · have tcv4 := eqF cv4
    refine lv_iconst (v := 4) hx hb dX2_change_16 (by decide) ?_
    refine lv_aload_n hx hb dX2_change_17 rfl (lv_at hl 0 rfl) ?_
    refine r_getN (ci := 5) (k := 10) (v := .long (mL S 510 h0)) C hM kh0 f_X2_85 rfl dX2_change_18 ?_
    refine lv_topl (fun lv5 elv5 => ?_)
    refine lv_aload_n hx hb dX2_change_21 rfl (lv_at hl 1 rfl) ?_
    refine r_getN (ci := 5) (k := 10) (v := .long (mL S 510 h1)) C hM kh1 f_X2_85 rfl dX2_change_22 ?_
    refine lv_topl (fun lv6 elv6 => ?_)
    refine W.lcmp hx hb dX2_change_25 ?_
    refine lv_topi (fun xv7 exv7 => ?_)
    refine lv_if_ne (tgt := 33) hx hb dX2_change_26 (by decide) (fun cv8 => ?_) (fun cv8 => ?_)
    · have tcv8 := eqF cv8
      refine lv_iconst (v := 2) hx hb dX2_change_33 (by decide) ?_
      refine lv_iadd hx hb dX2_change_34 ?_
      refine lv_topi (fun xv9 exv9 => ?_)
      refine lv_aload_n hx hb dX2_change_35 rfl (lv_at hl 0 rfl) ?_
      refine lv_aload_n hx hb dX2_change_36 rfl (lv_at hl 1 rfl) ?_
      refine r_VN (As := [.ref h1]) (rest := [.int xv9]) (ci := 5) C hM (c_X5_hasTextOf l D H0 S kc ns h0 h1 hI kh0 kh1) i_X5_hasTextOf m_X2_88 kh0 rfl rfl rfl hl.1 rfl (Nat.le_of_ble_eq_true rfl) ⟨by decide, by decide⟩ ⟨by decide, by decide⟩ dX2_change_37 (fun xv13 Sv10 kv11 nv12 H locs pv14 hM => ?_)
      obtain ⟨rfl, rfl, rfl, hxv13⟩ := pv14
      refine W.eq (g2 := F0 m 40 ls [.int xv13, .int xv9]) rfl ?_
      refine lv_if_eq (tgt := 47) hx hb dX2_change_40 (by decide) (fun cv15 => ?_) (fun cv15 => ?_)
      · have tcv15 := eqT cv15
        refine lv_iconst (v := 1) hx hb dX2_change_47 (by decide) ?_
        refine lv_iadd hx hb dX2_change_48 ?_
        refine lv_topi (fun xv16 exv16 => ?_)
        exact r_retI C hr hlk hM (⟨rfl, rfl, rfl, trivial⟩) dX2_change_49
      · have tcv15 := eqF cv15
        refine lv_iconst (v := 0) hx hb dX2_change_43 (by decide) ?_
        refine lv_goto (tgt := 48) hx hb dX2_change_44 (by decide) ?_
        refine lv_iadd hx hb dX2_change_48 ?_
        refine lv_topi (fun xv17 exv17 => ?_)
        exact r_retI C hr hlk hM (⟨rfl, rfl, rfl, trivial⟩) dX2_change_49
    · have tcv8 := eqT cv8
      refine lv_iconst (v := 0) hx hb dX2_change_29 (by decide) ?_
      refine lv_goto (tgt := 34) hx hb dX2_change_30 (by decide) ?_
      refine lv_iadd hx hb dX2_change_34 ?_
      refine lv_topi (fun xv18 exv18 => ?_)
      refine lv_aload_n hx hb dX2_change_35 rfl (lv_at hl 0 rfl) ?_
      refine lv_aload_n hx hb dX2_change_36 rfl (lv_at hl 1 rfl) ?_
      refine r_VN (As := [.ref h1]) (rest := [.int xv18]) (ci := 5) C hM (c_X5_hasTextOf l D H0 S kc ns h0 h1 hI kh0 kh1) i_X5_hasTextOf m_X2_88 kh0 rfl rfl rfl hl.1 rfl (Nat.le_of_ble_eq_true rfl) ⟨by decide, by decide⟩ ⟨by decide, by decide⟩ dX2_change_37 (fun xv22 Sv19 kv20 nv21 H locs pv23 hM => ?_)
      obtain ⟨rfl, rfl, rfl, hxv22⟩ := pv23
      refine W.eq (g2 := F0 m 40 ls [.int xv22, .int xv18]) rfl ?_
      refine lv_if_eq (tgt := 47) hx hb dX2_change_40 (by decide) (fun cv24 => ?_) (fun cv24 => ?_)
      · have tcv24 := eqT cv24
        refine lv_iconst (v := 1) hx hb dX2_change_47 (by decide) ?_
        refine lv_iadd hx hb dX2_change_48 ?_
        refine lv_topi (fun xv25 exv25 => ?_)
        exact r_retI C hr hlk hM (⟨rfl, rfl, rfl, trivial⟩) dX2_change_49
      · have tcv24 := eqF cv24
        refine lv_iconst (v := 0) hx hb dX2_change_43 (by decide) ?_
        refine lv_goto (tgt := 48) hx hb dX2_change_44 (by decide) ?_
        refine lv_iadd hx hb dX2_change_48 ?_
        refine lv_topi (fun xv26 exv26 => ?_)
        exact r_retI C hr hlk hM (⟨rfl, rfl, rfl, trivial⟩) dX2_change_49
  · have tcv4 := eqT cv4
    refine lv_iconst (v := 0) hx hb dX2_change_12 (by decide) ?_
    refine lv_goto (tgt := 17) hx hb dX2_change_13 (by decide) ?_
    refine lv_aload_n hx hb dX2_change_17 rfl (lv_at hl 0 rfl) ?_
    refine r_getN (ci := 5) (k := 10) (v := .long (mL S 510 h0)) C hM kh0 f_X2_85 rfl dX2_change_18 ?_
    refine lv_topl (fun lv27 elv27 => ?_)
    refine lv_aload_n hx hb dX2_change_21 rfl (lv_at hl 1 rfl) ?_
    refine r_getN (ci := 5) (k := 10) (v := .long (mL S 510 h1)) C hM kh1 f_X2_85 rfl dX2_change_22 ?_
    refine lv_topl (fun lv28 elv28 => ?_)
    refine W.lcmp hx hb dX2_change_25 ?_
    refine lv_topi (fun xv29 exv29 => ?_)
    refine lv_if_ne (tgt := 33) hx hb dX2_change_26 (by decide) (fun cv30 => ?_) (fun cv30 => ?_)
    · have tcv30 := eqF cv30
      refine lv_iconst (v := 2) hx hb dX2_change_33 (by decide) ?_
      refine lv_iadd hx hb dX2_change_34 ?_
      refine lv_topi (fun xv31 exv31 => ?_)
      refine lv_aload_n hx hb dX2_change_35 rfl (lv_at hl 0 rfl) ?_
      refine lv_aload_n hx hb dX2_change_36 rfl (lv_at hl 1 rfl) ?_
      refine r_VN (As := [.ref h1]) (rest := [.int xv31]) (ci := 5) C hM (c_X5_hasTextOf l D H0 S kc ns h0 h1 hI kh0 kh1) i_X5_hasTextOf m_X2_88 kh0 rfl rfl rfl hl.1 rfl (Nat.le_of_ble_eq_true rfl) ⟨by decide, by decide⟩ ⟨by decide, by decide⟩ dX2_change_37 (fun xv35 Sv32 kv33 nv34 H locs pv36 hM => ?_)
      obtain ⟨rfl, rfl, rfl, hxv35⟩ := pv36
      refine W.eq (g2 := F0 m 40 ls [.int xv35, .int xv31]) rfl ?_
      refine lv_if_eq (tgt := 47) hx hb dX2_change_40 (by decide) (fun cv37 => ?_) (fun cv37 => ?_)
      · have tcv37 := eqT cv37
        refine lv_iconst (v := 1) hx hb dX2_change_47 (by decide) ?_
        refine lv_iadd hx hb dX2_change_48 ?_
        refine lv_topi (fun xv38 exv38 => ?_)
        exact r_retI C hr hlk hM (⟨rfl, rfl, rfl, trivial⟩) dX2_change_49
      · have tcv37 := eqF cv37
        refine lv_iconst (v := 0) hx hb dX2_change_43 (by decide) ?_
        refine lv_goto (tgt := 48) hx hb dX2_change_44 (by decide) ?_
        refine lv_iadd hx hb dX2_change_48 ?_
        refine lv_topi (fun xv39 exv39 => ?_)
        exact r_retI C hr hlk hM (⟨rfl, rfl, rfl, trivial⟩) dX2_change_49
    · have tcv30 := eqT cv30
      refine lv_iconst (v := 0) hx hb dX2_change_29 (by decide) ?_
      refine lv_goto (tgt := 34) hx hb dX2_change_30 (by decide) ?_
      refine lv_iadd hx hb dX2_change_34 ?_
      refine lv_topi (fun xv40 exv40 => ?_)
      refine lv_aload_n hx hb dX2_change_35 rfl (lv_at hl 0 rfl) ?_
      refine lv_aload_n hx hb dX2_change_36 rfl (lv_at hl 1 rfl) ?_
      refine r_VN (As := [.ref h1]) (rest := [.int xv40]) (ci := 5) C hM (c_X5_hasTextOf l D H0 S kc ns h0 h1 hI kh0 kh1) i_X5_hasTextOf m_X2_88 kh0 rfl rfl rfl hl.1 rfl (Nat.le_of_ble_eq_true rfl) ⟨by decide, by decide⟩ ⟨by decide, by decide⟩ dX2_change_37 (fun xv44 Sv41 kv42 nv43 H locs pv45 hM => ?_)
      obtain ⟨rfl, rfl, rfl, hxv44⟩ := pv45
      refine W.eq (g2 := F0 m 40 ls [.int xv44, .int xv40]) rfl ?_
      refine lv_if_eq (tgt := 47) hx hb dX2_change_40 (by decide) (fun cv46 => ?_) (fun cv46 => ?_)
      · have tcv46 := eqT cv46
        refine lv_iconst (v := 1) hx hb dX2_change_47 (by decide) ?_
        refine lv_iadd hx hb dX2_change_48 ?_
        refine lv_topi (fun xv47 exv47 => ?_)
        exact r_retI C hr hlk hM (⟨rfl, rfl, rfl, trivial⟩) dX2_change_49
      · have tcv46 := eqF cv46
        refine lv_iconst (v := 0) hx hb dX2_change_43 (by decide) ?_
        refine lv_goto (tgt := 48) hx hb dX2_change_44 (by decide) ?_
        refine lv_iadd hx hb dX2_change_48 ?_
        refine lv_topi (fun xv48 exv48 => ?_)
        exact r_retI C hr hlk hM (⟨rfl, rfl, rfl, trivial⟩) dX2_change_49
set_option maxHeartbeats 4000000 in
set_option maxRecDepth 100000 in
theorem c_X2_changeAlone (l : Launch) (D : gD) (H0 : gB) (S : Mem) (kc ns : Nat) (o0 o1 : Option Nat) {u : Nat} {tl : Int} {rho : Nat × Nat} (hI : CI x0 u tl rho S) (ko0 : ∀ q, o0 = some q → mK S q = 6) (ko1 : ∀ q, o1 = some q → mK S q = 6) : Met l yX2_changeAlone (wsU yX2_changeAlone cX2_changeAlone 2 (some .int)) ({ frames := 2, cells := 0, slots := 0, locals := 42 } : Room) (mP D H0 S kc ns [va_rf o0, va_rf o1]) (mQ D H0 gI (fun r S1 k1 n1 => S = S1 ∧ kc = k1 ∧ ns = n1 ∧ True)) 0 0 (mF H0) := by
  refine r_met (own := RX2) (by decide +kernel) rfl (by simp [lg_sl, cat_rf, cat_i, cat_l, cat_a, cat_n]) ?_
  intro p e s m args below meth c C hr hlk hnm H ls hl hM
  obtain ⟨hx, hb, hml, hown, hts, -, -⟩ := id C
  have hl : lv_has ls 2 [(0, va_rf o0), (1, va_rf o1)] := by simpa [lv_args, cat_rf, cat_i, cat_l, cat_a, cat_n] using hl
  have t_0 : (0 : Int32).toInt = 0 := by decide
  have t_3 : (3 : Int32).toInt = 3 := by decide
  refine lv_aload_nQ hx hb dX2_changeAlone_0 rfl (lv_at hl 0 rfl) ?_
  cases o0 with
  | none =>
    refine lv_ifnullN (tgt := 8) hx hb dX2_changeAlone_1 (by decide) ?_
    refine lv_aload_nN hx hb dX2_changeAlone_8 rfl (lv_at hl 0 rfl) ?_
    refine lv_aload_nQ hx hb dX2_changeAlone_9 rfl (lv_at hl 1 rfl) ?_
    refine lv_acmp_ne (rx := none) (ry := o1) (tgt := 17) hx hb dX2_changeAlone_10 (by decide) (fun cv2 => ?_) (fun cv2 => ?_)
    · have tcv2 := trivial
      refine lv_iconst (v := 3) hx hb dX2_changeAlone_17 (by decide) ?_
      exact r_retI C hr hlk hM (⟨rfl, rfl, rfl, trivial⟩) dX2_changeAlone_18
    · have tcv2 := trivial
      refine lv_iconst (v := 0) hx hb dX2_changeAlone_13 (by decide) ?_
      refine lv_goto (tgt := 18) hx hb dX2_changeAlone_14 (by decide) ?_
      exact r_retI C hr hlk hM (⟨rfl, rfl, rfl, trivial⟩) dX2_changeAlone_18
  | some qv1 =>
    have kqv1 : mK S qv1 = 6 := ko0 qv1 rfl
    refine lv_ifnull hx hb dX2_changeAlone_1 ?_
    refine lv_aload_nQ hx hb dX2_changeAlone_4 rfl (lv_at hl 1 rfl) ?_
    cases o1 with
    | none =>
      refine lv_ifnonnullN hx hb dX2_changeAlone_5 ?_
      refine lv_aload_n hx hb dX2_changeAlone_8 rfl (lv_at hl 0 rfl) ?_
      refine lv_aload_nN hx hb dX2_changeAlone_9 rfl (lv_at hl 1 rfl) ?_
      refine lv_acmp_ne (rx := some qv1) (ry := none) (tgt := 17) hx hb dX2_changeAlone_10 (by decide) (fun cv4 => ?_) (fun cv4 => ?_)
      · have tcv4 := trivial
        refine lv_iconst (v := 3) hx hb dX2_changeAlone_17 (by decide) ?_
        exact r_retI C hr hlk hM (⟨rfl, rfl, rfl, trivial⟩) dX2_changeAlone_18
      · have tcv4 := trivial
        refine lv_iconst (v := 0) hx hb dX2_changeAlone_13 (by decide) ?_
        refine lv_goto (tgt := 18) hx hb dX2_changeAlone_14 (by decide) ?_
        exact r_retI C hr hlk hM (⟨rfl, rfl, rfl, trivial⟩) dX2_changeAlone_18
    | some qv3 =>
      have kqv3 : mK S qv3 = 6 := ko1 qv3 rfl
      refine lv_ifnonnull (tgt := 19) hx hb dX2_changeAlone_5 (by decide) ?_
      refine lv_aload_n hx hb dX2_changeAlone_19 rfl (lv_at hl 0 rfl) ?_
      refine lv_aload_n hx hb dX2_changeAlone_20 rfl (lv_at hl 1 rfl) ?_
      refine r_S (As := [.ref qv1, .ref qv3]) (rest := []) C hM (c_X2_change l D H0 S kc ns qv1 qv3 hI kqv1 kqv3) i_X2_change m_X2_78 rfl hl.1 rfl (Nat.le_of_ble_eq_true rfl) ⟨by decide, by decide⟩ ⟨by decide, by decide⟩ dX2_changeAlone_21 (fun xv8 Sv5 kv6 nv7 H locs pv9 hM => ?_)
      obtain ⟨rfl, rfl, rfl, hxv8⟩ := pv9
      refine W.eq (g2 := F0 m 24 ls [.int xv8]) rfl ?_
      exact r_retI C hr hlk hM (⟨rfl, rfl, rfl, trivial⟩) dX2_changeAlone_24
set_option maxHeartbeats 4000000 in
set_option maxRecDepth 100000 in
theorem c_X2_farOf (l : Launch) (D : gD) (H0 : gB) (S : Mem) (kc ns : Nat) (h0 h1 h2 : Nat) {u : Nat} {tl : Int} {rho : Nat × Nat} (hI : CI x0 u tl rho S) (kh0 : mK S h0 = 3) (kh1 : mK S h1 = 6) (kh2 : mK S h2 = 6) : Met l yX2_farOf (wsU yX2_farOf cX2_farOf 4 (some .int)) ({ frames := 0, cells := 0, slots := 0, locals := 0 } : Room) (mP D H0 S kc ns [.ref h0, .ref h1, .ref h2]) (mQ D H0 gI (fun r S1 k1 n1 => S = S1 ∧ kc = k1 ∧ ns = n1 ∧ True)) 0 0 (mF H0) := by
  refine r_met (own := RX2) (by decide +kernel) rfl (Nat.le_of_ble_eq_true rfl) ?_
  intro p e s m args below meth c C hr hlk hnm H ls hl hM
  obtain ⟨hx, hb, hml, hown, hts, -, -⟩ := id C
  have hl : lv_has ls 4 [(0, .ref h0), (1, .ref h1), (2, .ref h2)] := hl
  have t_m1 : (-1 : Int32).toInt = -1 := by decide
  have t_0 : (0 : Int32).toInt = 0 := by decide
  have t_60 : (60 : Int32).toInt = 60 := by decide
  refine lv_aload_n hx hb dX2_farOf_0 rfl (lv_at hl 1 rfl) ?_
  refine r_getN (ci := 5) (k := 1) (v := .int (mI S 501 h1)) C hM kh1 f_X2_48 rfl dX2_farOf_1 ?_
  refine lv_topi (fun xv1 exv1 => ?_)
  have fxv1 := NI.f501 hI.2 kh1
  rw [← exv1] at fxv1
  refine lv_bipush (v := 60) hx hb dX2_farOf_4 (by decide) ?_
  refine lv_imul hx hb dX2_farOf_6 ?_
  refine lv_topi (fun xv2 exv2 => ?_)
  try (have txv2 := mulC (a := xv1) (k := 60) (n := 60) (by decide) (by omega) (by omega); rw [← exv2] at txv2)
  refine lv_aload_n hx hb dX2_farOf_7 rfl (lv_at hl 2 rfl) ?_
  refine r_getN (ci := 5) (k := 1) (v := .int (mI S 501 h2)) C hM kh2 f_X2_48 rfl dX2_farOf_8 ?_
  refine lv_topi (fun xv3 exv3 => ?_)
  have fxv3 := NI.f501 hI.2 kh2
  rw [← exv3] at fxv3
  refine lv_iadd hx hb dX2_farOf_11 ?_
  refine lv_topi (fun xv4 exv4 => ?_)
  try (have txv4 := addI (a := xv2) (b := xv3) (by omega) (by omega); rw [← exv4] at txv4)
  refine lv_istore_n (lv' := [(3, .int xv4), (0, .ref h0), (1, .ref h1), (2, .ref h2)]) hx hb dX2_farOf_12 rfl hl (by decide) rfl (fun ls hl => ?_)
  refine lv_iload_n hx hb dX2_farOf_13 rfl (lv_at hl 0 rfl) ?_
  refine lv_if_lt (tgt := 26) hx hb dX2_farOf_14 (by decide) (fun cv5 => ?_) (fun cv5 => ?_)
  · have tcv5 := ltT cv5
    refine lv_iconst (v := -1) hx hb dX2_farOf_26 (by decide) ?_
    refine lv_goto (tgt := 36) hx hb dX2_farOf_27 (by decide) ?_
    exact r_retI C hr hlk hM (⟨rfl, rfl, rfl, trivial⟩) dX2_farOf_36
  · have tcv5 := ltF cv5
    refine lv_iload_n hx hb dX2_farOf_17 rfl (lv_at hl 0 rfl) ?_
    refine lv_aload_n hx hb dX2_farOf_18 rfl (lv_at hl 1 rfl) ?_
    obtain ⟨qv6, eqv6, kqv6, nqv6⟩ := TI.nn hI.1 (ci := 2) (k := 1) kh0
    refine r_get (ci := 2) (k := 1) (v := .ref qv6) C hM kh0 f_X2_9 (congrArg va_rf eqv6) dX2_farOf_19 ?_
    refine r_alen (t := 0) C hM kqv6 (by decide) rfl dX2_farOf_22 ?_
    refine lv_topi (fun xv7 exv7 => ?_)
    have txv7 : xv7.toInt = 3600 := by rw [exv7, nqv6 (by decide)]; rfl
    refine lv_icmp_lt (tgt := 30) hx hb dX2_farOf_23 (by decide) (fun cv8 => ?_) (fun cv8 => ?_)
    · have tcv8 := ltT cv8
      refine lv_aload_n hx hb dX2_farOf_30 rfl (lv_at hl 1 rfl) ?_
      refine r_get (ci := 2) (k := 1) (v := .ref qv6) C hM kh0 f_X2_9 (congrArg va_rf (eqv6)) dX2_farOf_31 ?_
      refine lv_iload_n hx hb dX2_farOf_34 rfl (lv_at hl 0 rfl) ?_
      refine r_iald C hM kqv6 (inI (by omega) (by rw [nqv6 (by decide)]; show _ < (3600 : Int); omega)) dX2_farOf_35 ?_
      refine lv_topi (fun xv9 exv9 => ?_)
      exact r_retI C hr hlk hM (⟨rfl, rfl, rfl, trivial⟩) dX2_farOf_36
    · have tcv8 := ltF cv8
      refine lv_iconst (v := -1) hx hb dX2_farOf_26 (by decide) ?_
      refine lv_goto (tgt := 36) hx hb dX2_farOf_27 (by decide) ?_
      exact r_retI C hr hlk hM (⟨rfl, rfl, rfl, trivial⟩) dX2_farOf_36
set_option maxHeartbeats 4000000 in
set_option maxRecDepth 100000 in
theorem c_X2_costOf (l : Launch) (D : gD) (H0 : gB) (S : Mem) (kc ns : Nat) (h0 h1 h2 : Nat) {u : Nat} {tl : Int} {rho : Nat × Nat} (hI : CI x0 u tl rho S) (kh0 : mK S h0 = 3) (kh1 : mK S h1 = 6) (kh2 : mK S h2 = 6) : Met l yX2_costOf (wsU yX2_costOf cX2_costOf 3 (some .int)) ({ frames := 3, cells := 0, slots := 0, locals := 63 } : Room) (mP D H0 S kc ns [.ref h0, .ref h1, .ref h2]) (mQ D H0 gI (fun r S1 k1 n1 => S = S1 ∧ kc = k1 ∧ ns = n1 ∧ True)) 0 0 (mF H0) := by
  refine r_met (own := RX2) (by decide +kernel) rfl (Nat.le_of_ble_eq_true rfl) ?_
  intro p e s m args below meth c C hr hlk hnm H ls hl hM
  obtain ⟨hx, hb, hml, hown, hts, -, -⟩ := id C
  have hl : lv_has ls 3 [(0, .ref h0), (1, .ref h1), (2, .ref h2)] := hl
  have t_0 : (0 : Int32).toInt = 0 := by decide
  have t_3 : (3 : Int32).toInt = 3 := by decide
  refine lv_iconst (v := 3) hx hb dX2_costOf_0 (by decide) ?_
  refine lv_aload_n hx hb dX2_costOf_1 rfl (lv_at hl 0 rfl) ?_
  refine lv_aload_n hx hb dX2_costOf_2 rfl (lv_at hl 1 rfl) ?_
  refine lv_aload_n hx hb dX2_costOf_3 rfl (lv_at hl 2 rfl) ?_
  refine r_V (As := [.ref h1, .ref h2]) (rest := [.int 3]) (ci := 2) C hM (c_X2_farOf l D H0 S kc ns h0 h1 h2 hI kh0 kh1 kh2) i_X2_farOf m_X2_29 kh0 rfl rfl rfl hl.1 rfl (Nat.le_of_ble_eq_true rfl) ⟨by decide, by decide⟩ ⟨by decide, by decide⟩ dX2_costOf_4 (fun xv4 Sv1 kv2 nv3 H locs pv5 hM => ?_)
  obtain ⟨rfl, rfl, rfl, hxv4⟩ := pv5
  refine W.eq (g2 := F0 m 7 ls [.int xv4, .int 3]) rfl ?_
  refine lv_imul hx hb dX2_costOf_7 ?_
  refine lv_topi (fun xv6 exv6 => ?_)
  refine lv_aload_n hx hb dX2_costOf_8 rfl (lv_at hl 1 rfl) ?_
  refine r_getN (ci := 5) (k := 3) C hM kh1 f_X2_33 rfl dX2_costOf_9 ?_
  obtain ⟨rv7, erv7, krv7⟩ : ∃ r : Option Nat, mR S 503 h1 = r ∧ ∀ q, r = some q → mK S q = 6 := ⟨_, rfl, TI.opt hI.1 (ci := 5) (k := 3) kh1⟩
  refine W.eq (g2 := F0 m 12 ls [va_rf rv7, .int xv6]) (by rw [← erv7]; rfl) ?_
  refine lv_aload_n hx hb dX2_costOf_12 rfl (lv_at hl 2 rfl) ?_
  refine r_getN (ci := 5) (k := 3) C hM kh2 f_X2_33 rfl dX2_costOf_13 ?_
  obtain ⟨rv8, erv8, krv8⟩ : ∃ r : Option Nat, mR S 503 h2 = r ∧ ∀ q, r = some q → mK S q = 6 := ⟨_, rfl, TI.opt hI.1 (ci := 5) (k := 3) kh2⟩
  refine W.eq (g2 := F0 m 16 ls [va_rf rv8, va_rf rv7, .int xv6]) (by rw [← erv8]; rfl) ?_
  refine r_S (As := [va_rf rv7, va_rf rv8]) (rest := [.int xv6]) C hM (c_X2_changeAlone l D H0 S kc ns rv7 rv8 hI (krv7) (krv8)) i_X2_changeAlone m_X2_39 rfl hl.1 rfl (Nat.le_of_ble_eq_true rfl) ⟨by decide, by decide⟩ ⟨by decide, by decide⟩ dX2_costOf_16 (fun xv12 Sv9 kv10 nv11 H locs pv13 hM => ?_)
  obtain ⟨rfl, rfl, rfl, hxv12⟩ := pv13
  refine W.eq (g2 := F0 m 19 ls [.int xv12, .int xv6]) rfl ?_
  refine lv_iadd hx hb dX2_costOf_19 ?_
  refine lv_topi (fun xv14 exv14 => ?_)
  refine lv_aload_n hx hb dX2_costOf_20 rfl (lv_at hl 1 rfl) ?_
  refine r_getN (ci := 5) (k := 4) C hM kh1 f_X2_42 rfl dX2_costOf_21 ?_
  obtain ⟨rv15, erv15, krv15⟩ : ∃ r : Option Nat, mR S 504 h1 = r ∧ ∀ q, r = some q → mK S q = 6 := ⟨_, rfl, TI.opt hI.1 (ci := 5) (k := 4) kh1⟩
  refine W.eq (g2 := F0 m 24 ls [va_rf rv15, .int xv14]) (by rw [← erv15]; rfl) ?_
  refine lv_aload_n hx hb dX2_costOf_24 rfl (lv_at hl 2 rfl) ?_
  refine r_getN (ci := 5) (k := 4) C hM kh2 f_X2_42 rfl dX2_costOf_25 ?_
  obtain ⟨rv16, erv16, krv16⟩ : ∃ r : Option Nat, mR S 504 h2 = r ∧ ∀ q, r = some q → mK S q = 6 := ⟨_, rfl, TI.opt hI.1 (ci := 5) (k := 4) kh2⟩
  refine W.eq (g2 := F0 m 28 ls [va_rf rv16, va_rf rv15, .int xv14]) (by rw [← erv16]; rfl) ?_
  refine r_S (As := [va_rf rv15, va_rf rv16]) (rest := [.int xv14]) C hM (c_X2_changeAlone l D H0 S kc ns rv15 rv16 hI (krv15) (krv16)) i_X2_changeAlone m_X2_39 rfl hl.1 rfl (Nat.le_of_ble_eq_true rfl) ⟨by decide, by decide⟩ ⟨by decide, by decide⟩ dX2_costOf_28 (fun xv20 Sv17 kv18 nv19 H locs pv21 hM => ?_)
  obtain ⟨rfl, rfl, rfl, hxv20⟩ := pv21
  refine W.eq (g2 := F0 m 31 ls [.int xv20, .int xv14]) rfl ?_
  refine lv_iadd hx hb dX2_costOf_31 ?_
  refine lv_topi (fun xv22 exv22 => ?_)
  refine lv_aload_n hx hb dX2_costOf_32 rfl (lv_at hl 1 rfl) ?_
  refine r_getN (ci := 5) (k := 8) C hM kh1 f_X2_45 rfl dX2_costOf_33 ?_
  obtain ⟨rv23, erv23, krv23⟩ : ∃ r : Option Nat, mR S 508 h1 = r ∧ ∀ q, r = some q → mK S q = 6 := ⟨_, rfl, TI.opt hI.1 (ci := 5) (k := 8) kh1⟩
  refine W.eq (g2 := F0 m 36 ls [va_rf rv23, .int xv22]) (by rw [← erv23]; rfl) ?_
  refine lv_aload_n hx hb dX2_costOf_36 rfl (lv_at hl 2 rfl) ?_
  refine r_getN (ci := 5) (k := 8) C hM kh2 f_X2_45 rfl dX2_costOf_37 ?_
  obtain ⟨rv24, erv24, krv24⟩ : ∃ r : Option Nat, mR S 508 h2 = r ∧ ∀ q, r = some q → mK S q = 6 := ⟨_, rfl, TI.opt hI.1 (ci := 5) (k := 8) kh2⟩
  refine W.eq (g2 := F0 m 40 ls [va_rf rv24, va_rf rv23, .int xv22]) (by rw [← erv24]; rfl) ?_
  refine r_S (As := [va_rf rv23, va_rf rv24]) (rest := [.int xv22]) C hM (c_X2_changeAlone l D H0 S kc ns rv23 rv24 hI (krv23) (krv24)) i_X2_changeAlone m_X2_39 rfl hl.1 rfl (Nat.le_of_ble_eq_true rfl) ⟨by decide, by decide⟩ ⟨by decide, by decide⟩ dX2_costOf_40 (fun xv28 Sv25 kv26 nv27 H locs pv29 hM => ?_)
  obtain ⟨rfl, rfl, rfl, hxv28⟩ := pv29
  refine W.eq (g2 := F0 m 43 ls [.int xv28, .int xv22]) rfl ?_
  refine lv_iadd hx hb dX2_costOf_43 ?_
  refine lv_topi (fun xv30 exv30 => ?_)
  exact r_retI C hr hlk hM (⟨rfl, rfl, rfl, trivial⟩) dX2_costOf_44
set_option maxHeartbeats 4000000 in
set_option maxRecDepth 100000 in
theorem c_X1_look (l : Launch) (D : gD) (H0 : gB) (S : Mem) (kc ns : Nat) (h0 h1 h2 h3 : Nat) (i0 : Int32) {u : Nat} {tl : Int} {rho : Nat × Nat} (hI : CI x0 u tl rho S) (kh0 : mK S h0 = 2) (kh1 : mK S h1 = 6) (kh2 : mK S h2 = 5) (kh3 : mK S h3 = 3) : Met l yX1_look (wsU yX1_look cX1_look 12 (some .int)) ({ frames := 4, cells := 0, slots := 0, locals := 85 } : Room) (mP D H0 S kc ns [.ref h0, .ref h1, .ref h2, .ref h3, .int i0]) (mQ D H0 gI (fun r S1 k1 n1 => kc = k1 ∧ ns = n1 ∧ mK S1 = mK S ∧ CI x0 u tl rho S1 ∧ True)) 0 0 (mF H0) := by
  refine r_met (own := RX1) (by decide +kernel) rfl (Nat.le_of_ble_eq_true rfl) ?_
  intro p e s m args below meth c C hr hlk hnm H ls hl hM
  obtain ⟨hx, hb, hml, hown, hts, -, -⟩ := id C
  have hl : lv_has ls 12 [(0, .ref h0), (1, .ref h1), (2, .ref h2), (3, .ref h3), (4, .int i0)] := hl
  have hI0 := hI
  have hK9 : mK S = mK S := rfl
  have t_m2 : (-2 : Int32).toInt = -2 := by decide
  have t_m1 : (-1 : Int32).toInt = -1 := by decide
  have t_0 : (0 : Int32).toInt = 0 := by decide
  have t_1 : (1 : Int32).toInt = 1 := by decide
  refine lv_null hx hb dX1_look_0 ?_
  refine lv_astoreN (lv' := [(5, .null), (0, .ref h0), (1, .ref h1), (2, .ref h2), (3, .ref h3), (4, .int i0)]) hx hb dX1_look_1 hl (by decide) rfl (fun ls hl => ?_)
  refine lv_null hx hb dX1_look_3 ?_
  refine lv_astoreN (lv' := [(6, .null), (5, .null), (0, .ref h0), (1, .ref h1), (2, .ref h2), (3, .ref h3), (4, .int i0)]) hx hb dX1_look_4 hl (by decide) rfl (fun ls hl => ?_)
  refine lv_iconst (v := -1) hx hb dX1_look_6 (by decide) ?_
  refine lv_istore (lv' := [(7, .int (-1)), (6, .null), (5, .null), (0, .ref h0), (1, .ref h1), (2, .ref h2), (3, .ref h3), (4, .int i0)]) hx hb dX1_look_7 hl (by decide) rfl (fun ls hl => ?_)
  refine lv_iconst (v := -1) hx hb dX1_look_9 (by decide) ?_
  refine lv_istore (lv' := [(8, .int (-1)), (7, .int (-1)), (6, .null), (5, .null), (0, .ref h0), (1, .ref h1), (2, .ref h2), (3, .ref h3), (4, .int i0)]) hx hb dX1_look_10 hl (by decide) rfl (fun ls hl => ?_)
  refine lv_iconst (v := 0) hx hb dX1_look_12 (by decide) ?_
  refine lv_istore (lv' := [(9, .int 0), (8, .int (-1)), (7, .int (-1)), (6, .null), (5, .null), (0, .ref h0), (1, .ref h1), (2, .ref h2), (3, .ref h3), (4, .int i0)]) hx hb dX1_look_13 hl (by decide) rfl (fun ls hl => ?_)
  have loop15 : ∀ (fu : Nat) (j : Int32) (a8 : Int32) (a7 : Int32) (o2 : Option Nat) (o : Option Nat) (H : Heap) (locs : List Loc) (ls : Array Slot), (0 ≤ j.toInt) → (∀ q, o = some q → mK S q = 6) → (∀ q, o2 = some q → mK S q = 6) → (60 - j.toInt).toNat < fu → lv_has ls 12 [(0, .ref h0), (1, .ref h1), (2, .ref h2), (3, .ref h3), (4, .int i0), (5, va_rf o), (6, va_rf o2), (7, .int a7), (8, .int a8), (9, .int j)] → mH D H0 S kc ns H locs → W p l e ({ frames := 4, cells := 0, slots := 0, locals := 85 } : Room) s m args below meth c H locs 0 0 (MQ below (mQ D H0 gI (fun r S1 k1 n1 => kc = k1 ∧ ns = n1 ∧ mK S1 = mK S ∧ CI x0 u tl rho S1 ∧ True)) args s 0 0 (mF H0)) (F0 m 15 ls []) := by
    intro fu
    induction fu with
    | zero => intro j a8 a7 o2 o H locs ls h15_0 h15_1 h15_2 hfu; exact absurd hfu (by omega)
    | succ fu ih15 =>
      intro j a8 a7 o2 o H locs ls h15_0 h15_1 h15_2 hfu hl hM
      have ko := h15_1
      have ko2 := h15_2
      refine lv_iload hx hb dX1_look_15 (lv_at hl 9 rfl) ?_
      refine lv_aload_n hx hb dX1_look_17 rfl (lv_at hl 2 rfl) ?_
      refine r_getN (ci := 4) (k := 1) (v := .int (mI S 401 h2)) C hM kh2 f_X1_25 rfl dX1_look_18 ?_
      refine lv_topi (fun xv1 exv1 => ?_)
      have fxv1 := NI.f401 hI.2 kh2
      rw [← exv1] at fxv1
      refine lv_icmp_ge (tgt := 119) hx hb dX1_look_21 (by decide) (fun cv2 => ?_) (fun cv2 => ?_)
      · have tcv2 := leT cv2
        refine lv_aloadQ hx hb dX1_look_119 (lv_at hl 5 rfl) ?_
        cases o with
        | none =>
          refine lv_ifnonnullN hx hb dX1_look_121 ?_
          refine lv_bipush (v := -2) hx hb dX1_look_124 (by decide) ?_
          exact r_retI C hr hlk hM (⟨rfl, rfl, hK9, hI, trivial⟩) dX1_look_126
        | some qv3 =>
          have kqv3 : mK S qv3 = 6 := ko qv3 rfl
          refine lv_ifnonnull (tgt := 127) hx hb dX1_look_121 (by decide) ?_
          refine lv_aload_n hx hb dX1_look_127 rfl (lv_at hl 0 rfl) ?_
          refine lv_aload hx hb dX1_look_128 (lv_at hl 5 rfl) ?_
          refine r_put C hM kh0 f_X1_9 (fun r h => by cases h; rfl) rfl rfl (mPut.Rf (ci := 1) (k := 0) (x := (some qv3)) rfl) dX1_look_130 (fun H locs hM => ?_)
          have hM : mH D H0 (pR S 100 h0 (some qv3)) kc ns H locs := hM
          have hI : CI x0 u tl rho (pR S 100 h0 (some qv3)) := CI.putR (ci := 1) (k := 0) hI kh0 (fun z h => by cases h; exact ⟨kqv3, fun h => absurd rfl h⟩) (Or.inl rfl) (by decide) (by decide) (by decide)
          refine lv_aload_n hx hb dX1_look_133 rfl (lv_at hl 0 rfl) ?_
          refine lv_aloadQ hx hb dX1_look_134 (lv_at hl 6 rfl) ?_
          refine r_put C hM kh0 f_X1_15 (fun r h => by cases h; rfl) (by cases o2 <;> rfl) (by cases o2 <;> rfl) (mPut.Rf (ci := 1) (k := 1) (x := o2) rfl) dX1_look_136 (fun H locs hM => ?_)
          have hM : mH D H0 (pR (pR S 100 h0 (some qv3)) 101 h0 o2) kc ns H locs := hM
          have hI : CI x0 u tl rho (pR (pR S 100 h0 (some qv3)) 101 h0 o2) := CI.putR (ci := 1) (k := 1) hI kh0 (fun z h => ⟨ko2 z h, fun h => absurd rfl h⟩) (Or.inl rfl) (by decide) (by decide) (by decide)
          refine lv_aload_n hx hb dX1_look_139 rfl (lv_at hl 0 rfl) ?_
          refine lv_iload hx hb dX1_look_140 (lv_at hl 7 rfl) ?_
          refine r_put C hM kh0 f_X1_18 (fun r h => by cases h; rfl) rfl rfl (mPut.I (ci := 1) (k := 2) rfl) dX1_look_142 (fun H locs hM => ?_)
          have hM : mH D H0 (pI (pR (pR S 100 h0 (some qv3)) 101 h0 o2) 102 h0 a7) kc ns H locs := hM
          have hI := hI.fe (fEq.I (S := (pR (pR S 100 h0 (some qv3)) 101 h0 o2)) (f := 102) (a := h0) (v := a7) (by decide))
          refine lv_aload_n hx hb dX1_look_145 rfl (lv_at hl 0 rfl) ?_
          refine lv_iload hx hb dX1_look_146 (lv_at hl 8 rfl) ?_
          refine r_put C hM kh0 f_X1_22 (fun r h => by cases h; rfl) rfl rfl (mPut.I (ci := 1) (k := 3) rfl) dX1_look_148 (fun H locs hM => ?_)
          have hM : mH D H0 (pI (pI (pR (pR S 100 h0 (some qv3)) 101 h0 o2) 102 h0 a7) 103 h0 a8) kc ns H locs := hM
          have hI := hI.fe (fEq.I (S := (pI (pR (pR S 100 h0 (some qv3)) 101 h0 o2) 102 h0 a7)) (f := 103) (a := h0) (v := a8) (by decide))
          refine lv_aloadQ hx hb dX1_look_151 (lv_at hl 6 rfl) ?_
          cases o2 with
          | none =>
            refine lv_ifnullN (tgt := 166) hx hb dX1_look_153 (by decide) ?_
            refine lv_iconst (v := 1) hx hb dX1_look_166 (by decide) ?_
            refine lv_goto (tgt := 171) hx hb dX1_look_167 (by decide) ?_
            exact r_retI C hr hlk hM (⟨rfl, rfl, hK9, hI, trivial⟩) dX1_look_171
          | some qv4 =>
            have kqv4 : mK _ qv4 = 6 := ko2 qv4 rfl
            refine lv_ifnull hx hb dX1_look_153 ?_
            refine lv_iload hx hb dX1_look_156 (lv_at hl 8 rfl) ?_
            refine lv_iload hx hb dX1_look_158 (lv_at hl 7 rfl) ?_
            refine lv_isub hx hb dX1_look_160 ?_
            refine lv_topi (fun xv5 exv5 => ?_)
            try (have txv5 := subI (a := a8) (b := a7) (by omega) (by omega); rw [← exv5] at txv5)
            refine lv_iload hx hb dX1_look_161 (lv_at hl 4 rfl) ?_
            refine lv_icmp_lt (tgt := 170) hx hb dX1_look_163 (by decide) (fun cv6 => ?_) (fun cv6 => ?_)
            · have tcv6 := ltT cv6
              refine lv_iconst (v := 0) hx hb dX1_look_170 (by decide) ?_
              exact r_retI C hr hlk hM (⟨rfl, rfl, hK9, hI, trivial⟩) dX1_look_171
            · have tcv6 := ltF cv6
              refine lv_iconst (v := 1) hx hb dX1_look_166 (by decide) ?_
              refine lv_goto (tgt := 171) hx hb dX1_look_167 (by decide) ?_
              exact r_retI C hr hlk hM (⟨rfl, rfl, hK9, hI, trivial⟩) dX1_look_171
      · have tcv2 := leF cv2
        refine lv_aload_n hx hb dX1_look_24 rfl (lv_at hl 2 rfl) ?_
        refine lv_iload hx hb dX1_look_25 (lv_at hl 9 rfl) ?_
        refine r_VN (As := [.int j]) (rest := []) (ci := 4) C hM (c_X4_at l D H0 S kc ns h2 j hI id kh2) i_X4_at m_X1_30 kh2 rfl rfl rfl hl.1 rfl (Nat.le_of_ble_eq_true rfl) ⟨by decide, by decide⟩ ⟨by decide, by decide⟩ dX1_look_27 (fun rv10 Sv7 kv8 nv9 H locs pv11 hM => ?_)
        obtain ⟨rfl, rfl, rfl, krv10⟩ := pv11
        refine W.eq (g2 := F0 m 30 ls [va_rf rv10]) rfl ?_
        refine lv_astoreQ (lv' := [(10, va_rf rv10), (0, .ref h0), (1, .ref h1), (2, .ref h2), (3, .ref h3), (4, .int i0), (5, va_rf o), (6, va_rf o2), (7, .int a7), (8, .int a8), (9, .int j)]) hx hb dX1_look_30 hl (by decide) rfl (fun ls hl => ?_)
        refine lv_aloadQ hx hb dX1_look_32 (lv_at hl 0 rfl) ?_
        cases rv10 with
        | none =>
          refine lv_ifnullN (tgt := 113) hx hb dX1_look_34 (by decide) ?_
          obtain ⟨xv13, exv13⟩ : ∃ y : Int32, y = j + 1 := ⟨_, rfl⟩
          try (have txv13 := addI (a := j) (b := 1) (by omega) (by omega); rw [← exv13] at txv13)
          refine lv_iinc (v := xv13) (lv' := [(9, .int xv13), (10, .null), (0, .ref h0), (1, .ref h1), (2, .ref h2), (3, .ref h3), (4, .int i0), (5, va_rf o), (6, va_rf o2), (7, .int a7), (8, .int a8)]) hx hb dX1_look_113 hl (k := 10) rfl (by rw [exv13]; rfl) (by decide) rfl (fun ls hl => ?_)
          refine lv_goto (tgt := 15) hx hb dX1_look_116 (by decide) ?_
          exact ih15 xv13 a8 a7 o2 o _ _ _ (by omega) (ko) (ko2) (by omega) (lv_sub hl [2, 3, 4, 5, 6, 7, 8, 9, 10, 0] rfl) hM
        | some qv12 =>
          have kqv12 : mK S qv12 = 6 := krv10 qv12 rfl
          refine lv_ifnull hx hb dX1_look_34 ?_
          refine lv_aload hx hb dX1_look_37 (lv_at hl 0 rfl) ?_
          refine r_getN (ci := 5) (k := 2) (v := .long (mL S 502 qv12)) C hM kqv12 f_X1_34 rfl dX1_look_39 ?_
          refine lv_topl (fun lv14 elv14 => ?_)
          refine lv_aload_n hx hb dX1_look_42 rfl (lv_at hl 2 rfl) ?_
          refine r_getN (ci := 5) (k := 2) (v := .long (mL S 502 h1)) C hM kh1 f_X1_34 rfl dX1_look_43 ?_
          refine lv_topl (fun lv15 elv15 => ?_)
          refine W.lcmp hx hb dX1_look_46 ?_
          refine lv_topi (fun xv16 exv16 => ?_)
          refine lv_if_eq (tgt := 53) hx hb dX1_look_47 (by decide) (fun cv17 => ?_) (fun cv17 => ?_)
          · have tcv17 := eqT cv17
            refine lv_aload_n hx hb dX1_look_53 rfl (lv_at hl 4 rfl) ?_
            refine lv_aload_n hx hb dX1_look_54 rfl (lv_at hl 2 rfl) ?_
            refine lv_aload hx hb dX1_look_55 (lv_at hl 0 rfl) ?_
            refine r_VN (As := [.ref h1, .ref qv12]) (rest := []) (ci := 2) C hM (c_X2_costOf l D H0 S kc ns h3 h1 qv12 hI kh3 kh1 kqv12) i_X2_costOf m_X1_40 kh3 rfl rfl rfl hl.1 rfl (Nat.le_of_ble_eq_true rfl) ⟨by decide, by decide⟩ ⟨by decide, by decide⟩ dX1_look_57 (fun xv21 Sv18 kv19 nv20 H locs pv22 hM => ?_)
            obtain ⟨rfl, rfl, rfl, hxv21⟩ := pv22
            refine W.eq (g2 := F0 m 60 ls [.int xv21]) rfl ?_
            refine lv_istore (lv' := [(11, .int xv21), (10, .ref qv12), (0, .ref h0), (1, .ref h1), (2, .ref h2), (3, .ref h3), (4, .int i0), (5, va_rf o), (6, va_rf o2), (7, .int a7), (8, .int a8), (9, .int j)]) hx hb dX1_look_60 hl (by decide) rfl (fun ls hl => ?_)
            refine lv_aloadQ hx hb dX1_look_62 (lv_at hl 7 rfl) ?_
            cases o with
            | none =>
              refine lv_ifnullN (tgt := 74) hx hb dX1_look_64 (by decide) ?_
              refine lv_aloadN hx hb dX1_look_74 (lv_at hl 7 rfl) ?_
              refine lv_astoreN (lv' := [(6, .null), (11, .int xv21), (10, .ref qv12), (0, .ref h0), (1, .ref h1), (2, .ref h2), (3, .ref h3), (4, .int i0), (5, .null), (7, .int a7), (8, .int a8), (9, .int j)]) hx hb dX1_look_76 hl (by decide) rfl (fun ls hl => ?_)
              refine lv_iload hx hb dX1_look_78 (lv_at hl 9 rfl) ?_
              refine lv_istore (lv' := [(8, .int a7), (6, .null), (11, .int xv21), (10, .ref qv12), (0, .ref h0), (1, .ref h1), (2, .ref h2), (3, .ref h3), (4, .int i0), (5, .null), (7, .int a7), (9, .int j)]) hx hb dX1_look_80 hl (by decide) rfl (fun ls hl => ?_)
              refine lv_aload hx hb dX1_look_82 (lv_at hl 3 rfl) ?_
              refine lv_astore (lv' := [(5, .ref qv12), (8, .int a7), (6, .null), (11, .int xv21), (10, .ref qv12), (0, .ref h0), (1, .ref h1), (2, .ref h2), (3, .ref h3), (4, .int i0), (7, .int a7), (9, .int j)]) hx hb dX1_look_84 hl (by decide) rfl (fun ls hl => ?_)
              refine lv_iload hx hb dX1_look_86 (lv_at hl 3 rfl) ?_
              refine lv_istore (lv' := [(7, .int xv21), (5, .ref qv12), (8, .int a7), (6, .null), (11, .int xv21), (10, .ref qv12), (0, .ref h0), (1, .ref h1), (2, .ref h2), (3, .ref h3), (4, .int i0), (9, .int j)]) hx hb dX1_look_88 hl (by decide) rfl (fun ls hl => ?_)
              refine lv_goto (tgt := 113) hx hb dX1_look_90 (by decide) ?_
              obtain ⟨xv24, exv24⟩ : ∃ y : Int32, y = j + 1 := ⟨_, rfl⟩
              try (have txv24 := addI (a := j) (b := 1) (by omega) (by omega); rw [← exv24] at txv24)
              refine lv_iinc (v := xv24) (lv' := [(9, .int xv24), (7, .int xv21), (5, .ref qv12), (8, .int a7), (6, .null), (11, .int xv21), (10, .ref qv12), (0, .ref h0), (1, .ref h1), (2, .ref h2), (3, .ref h3), (4, .int i0)]) hx hb dX1_look_113 hl (k := 11) rfl (by rw [exv24]; rfl) (by decide) rfl (fun ls hl => ?_)
              refine lv_goto (tgt := 15) hx hb dX1_look_116 (by decide) ?_
              exact ih15 xv24 a7 xv21 none (some qv12) _ _ _ (by omega) (fun z h => by cases h; exact kqv12) (fun z h => by cases h) (by omega) (lv_sub hl [7, 8, 9, 10, 11, 2, 4, 1, 3, 0] rfl) hM
            | some qv23 =>
              have kqv23 : mK S qv23 = 6 := ko qv23 rfl
              refine lv_ifnull hx hb dX1_look_64 ?_
              refine lv_iload hx hb dX1_look_67 (lv_at hl 0 rfl) ?_
              refine lv_iload hx hb dX1_look_69 (lv_at hl 9 rfl) ?_
              refine lv_icmp_ge (tgt := 93) hx hb dX1_look_71 (by decide) (fun cv25 => ?_) (fun cv25 => ?_)
              · have tcv25 := leT cv25
                refine lv_aloadQ hx hb dX1_look_93 (lv_at hl 8 rfl) ?_
                cases o2 with
                | none =>
                  refine lv_ifnullN (tgt := 105) hx hb dX1_look_95 (by decide) ?_
                  refine lv_aload hx hb dX1_look_105 (lv_at hl 1 rfl) ?_
                  refine lv_astore (lv' := [(6, .ref qv12), (11, .int xv21), (10, .ref qv12), (0, .ref h0), (1, .ref h1), (2, .ref h2), (3, .ref h3), (4, .int i0), (5, .ref qv23), (7, .int a7), (8, .int a8), (9, .int j)]) hx hb dX1_look_107 hl (by decide) rfl (fun ls hl => ?_)
                  refine lv_iload hx hb dX1_look_109 (lv_at hl 1 rfl) ?_
                  refine lv_istore (lv' := [(8, .int xv21), (6, .ref qv12), (11, .int xv21), (10, .ref qv12), (0, .ref h0), (1, .ref h1), (2, .ref h2), (3, .ref h3), (4, .int i0), (5, .ref qv23), (7, .int a7), (9, .int j)]) hx hb dX1_look_111 hl (by decide) rfl (fun ls hl => ?_)
                  obtain ⟨xv27, exv27⟩ : ∃ y : Int32, y = j + 1 := ⟨_, rfl⟩
                  try (have txv27 := addI (a := j) (b := 1) (by omega) (by omega); rw [← exv27] at txv27)
                  refine lv_iinc (v := xv27) (lv' := [(9, .int xv27), (8, .int xv21), (6, .ref qv12), (11, .int xv21), (10, .ref qv12), (0, .ref h0), (1, .ref h1), (2, .ref h2), (3, .ref h3), (4, .int i0), (5, .ref qv23), (7, .int a7)]) hx hb dX1_look_113 hl (k := 11) rfl (by rw [exv27]; rfl) (by decide) rfl (fun ls hl => ?_)
                  refine lv_goto (tgt := 15) hx hb dX1_look_116 (by decide) ?_
                  exact ih15 xv27 xv21 a7 (some qv12) (some qv23) _ _ _ (by omega) (fun z h => by cases h; exact kqv23) (fun z h => by cases h; exact kqv12) (by omega) (lv_sub hl [5, 6, 7, 8, 9, 10, 2, 11, 1, 0] rfl) hM
                | some qv26 =>
                  have kqv26 : mK S qv26 = 6 := ko2 qv26 rfl
                  refine lv_ifnull hx hb dX1_look_95 ?_
                  refine lv_iload hx hb dX1_look_98 (lv_at hl 0 rfl) ?_
                  refine lv_iload hx hb dX1_look_100 (lv_at hl 10 rfl) ?_
                  refine lv_icmp_ge (tgt := 113) hx hb dX1_look_102 (by decide) (fun cv28 => ?_) (fun cv28 => ?_)
                  · have tcv28 := leT cv28
                    obtain ⟨xv29, exv29⟩ : ∃ y : Int32, y = j + 1 := ⟨_, rfl⟩
                    try (have txv29 := addI (a := j) (b := 1) (by omega) (by omega); rw [← exv29] at txv29)
                    refine lv_iinc (v := xv29) (lv' := [(9, .int xv29), (11, .int xv21), (10, .ref qv12), (0, .ref h0), (1, .ref h1), (2, .ref h2), (3, .ref h3), (4, .int i0), (5, .ref qv23), (6, .ref qv26), (7, .int a7), (8, .int a8)]) hx hb dX1_look_113 hl (k := 11) rfl (by rw [exv29]; rfl) (by decide) rfl (fun ls hl => ?_)
                    refine lv_goto (tgt := 15) hx hb dX1_look_116 (by decide) ?_
                    exact ih15 xv29 a8 a7 (some qv26) (some qv23) _ _ _ (by omega) (fun z h => by cases h; exact kqv23) (fun z h => by cases h; exact kqv26) (by omega) (lv_sub hl [3, 4, 5, 6, 7, 8, 9, 10, 11, 0] rfl) hM
                  · have tcv28 := leF cv28
                    refine lv_aload hx hb dX1_look_105 (lv_at hl 1 rfl) ?_
                    refine lv_astore (lv' := [(6, .ref qv12), (11, .int xv21), (10, .ref qv12), (0, .ref h0), (1, .ref h1), (2, .ref h2), (3, .ref h3), (4, .int i0), (5, .ref qv23), (7, .int a7), (8, .int a8), (9, .int j)]) hx hb dX1_look_107 hl (by decide) rfl (fun ls hl => ?_)
                    refine lv_iload hx hb dX1_look_109 (lv_at hl 1 rfl) ?_
                    refine lv_istore (lv' := [(8, .int xv21), (6, .ref qv12), (11, .int xv21), (10, .ref qv12), (0, .ref h0), (1, .ref h1), (2, .ref h2), (3, .ref h3), (4, .int i0), (5, .ref qv23), (7, .int a7), (9, .int j)]) hx hb dX1_look_111 hl (by decide) rfl (fun ls hl => ?_)
                    obtain ⟨xv30, exv30⟩ : ∃ y : Int32, y = j + 1 := ⟨_, rfl⟩
                    try (have txv30 := addI (a := j) (b := 1) (by omega) (by omega); rw [← exv30] at txv30)
                    refine lv_iinc (v := xv30) (lv' := [(9, .int xv30), (8, .int xv21), (6, .ref qv12), (11, .int xv21), (10, .ref qv12), (0, .ref h0), (1, .ref h1), (2, .ref h2), (3, .ref h3), (4, .int i0), (5, .ref qv23), (7, .int a7)]) hx hb dX1_look_113 hl (k := 11) rfl (by rw [exv30]; rfl) (by decide) rfl (fun ls hl => ?_)
                    refine lv_goto (tgt := 15) hx hb dX1_look_116 (by decide) ?_
                    exact ih15 xv30 xv21 a7 (some qv12) (some qv23) _ _ _ (by omega) (fun z h => by cases h; exact kqv23) (fun z h => by cases h; exact kqv12) (by omega) (lv_sub hl [5, 6, 7, 8, 9, 10, 2, 11, 1, 0] rfl) hM
              · have tcv25 := leF cv25
                refine lv_aload hx hb dX1_look_74 (lv_at hl 7 rfl) ?_
                refine lv_astore (lv' := [(6, .ref qv23), (11, .int xv21), (10, .ref qv12), (0, .ref h0), (1, .ref h1), (2, .ref h2), (3, .ref h3), (4, .int i0), (5, .ref qv23), (7, .int a7), (8, .int a8), (9, .int j)]) hx hb dX1_look_76 hl (by decide) rfl (fun ls hl => ?_)
                refine lv_iload hx hb dX1_look_78 (lv_at hl 9 rfl) ?_
                refine lv_istore (lv' := [(8, .int a7), (6, .ref qv23), (11, .int xv21), (10, .ref qv12), (0, .ref h0), (1, .ref h1), (2, .ref h2), (3, .ref h3), (4, .int i0), (5, .ref qv23), (7, .int a7), (9, .int j)]) hx hb dX1_look_80 hl (by decide) rfl (fun ls hl => ?_)
                refine lv_aload hx hb dX1_look_82 (lv_at hl 3 rfl) ?_
                refine lv_astore (lv' := [(5, .ref qv12), (8, .int a7), (6, .ref qv23), (11, .int xv21), (10, .ref qv12), (0, .ref h0), (1, .ref h1), (2, .ref h2), (3, .ref h3), (4, .int i0), (7, .int a7), (9, .int j)]) hx hb dX1_look_84 hl (by decide) rfl (fun ls hl => ?_)
                refine lv_iload hx hb dX1_look_86 (lv_at hl 3 rfl) ?_
                refine lv_istore (lv' := [(7, .int xv21), (5, .ref qv12), (8, .int a7), (6, .ref qv23), (11, .int xv21), (10, .ref qv12), (0, .ref h0), (1, .ref h1), (2, .ref h2), (3, .ref h3), (4, .int i0), (9, .int j)]) hx hb dX1_look_88 hl (by decide) rfl (fun ls hl => ?_)
                refine lv_goto (tgt := 113) hx hb dX1_look_90 (by decide) ?_
                obtain ⟨xv31, exv31⟩ : ∃ y : Int32, y = j + 1 := ⟨_, rfl⟩
                try (have txv31 := addI (a := j) (b := 1) (by omega) (by omega); rw [← exv31] at txv31)
                refine lv_iinc (v := xv31) (lv' := [(9, .int xv31), (7, .int xv21), (5, .ref qv12), (8, .int a7), (6, .ref qv23), (11, .int xv21), (10, .ref qv12), (0, .ref h0), (1, .ref h1), (2, .ref h2), (3, .ref h3), (4, .int i0)]) hx hb dX1_look_113 hl (k := 11) rfl (by rw [exv31]; rfl) (by decide) rfl (fun ls hl => ?_)
                refine lv_goto (tgt := 15) hx hb dX1_look_116 (by decide) ?_
                exact ih15 xv31 a7 xv21 (some qv23) (some qv12) _ _ _ (by omega) (fun z h => by cases h; exact kqv12) (fun z h => by cases h; exact kqv23) (by omega) (lv_sub hl [7, 8, 9, 10, 11, 2, 4, 1, 3, 0] rfl) hM
          · have tcv17 := eqF cv17
            refine lv_goto (tgt := 113) hx hb dX1_look_50 (by decide) ?_
            obtain ⟨xv32, exv32⟩ : ∃ y : Int32, y = j + 1 := ⟨_, rfl⟩
            try (have txv32 := addI (a := j) (b := 1) (by omega) (by omega); rw [← exv32] at txv32)
            refine lv_iinc (v := xv32) (lv' := [(9, .int xv32), (10, .ref qv12), (0, .ref h0), (1, .ref h1), (2, .ref h2), (3, .ref h3), (4, .int i0), (5, va_rf o), (6, va_rf o2), (7, .int a7), (8, .int a8)]) hx hb dX1_look_113 hl (k := 10) rfl (by rw [exv32]; rfl) (by decide) rfl (fun ls hl => ?_)
            refine lv_goto (tgt := 15) hx hb dX1_look_116 (by decide) ?_
            exact ih15 xv32 a8 a7 o2 o _ _ _ (by omega) (ko) (ko2) (by omega) (lv_sub hl [2, 3, 4, 5, 6, 7, 8, 9, 10, 0] rfl) hM
  exact loop15 (((60 - (0 : Int32).toInt).toNat) + 1) 0 (-1) (-1) none none _ _ _ (by omega) (fun z h => by cases h) (fun z h => by cases h) (by omega) (lv_sub hl [5, 6, 7, 8, 9, 4, 3, 2, 1, 0] rfl) hM
set_option maxHeartbeats 4000000 in
set_option maxRecDepth 100000 in
theorem c_X3_stepOn (l : Launch) (D : gD) (H0 : gB) (S : Mem) (kc ns : Nat) (h0 h1 : Nat) (i0 : Int32) {u : Nat} {tl : Int} {rho : Nat × Nat} (hI : CI x0 u tl rho S) (kh0 : mK S h0 = 4) (kh1 : mK S h1 = 5) : Met l yX3_stepOn (wsU yX3_stepOn cX3_stepOn 6 (some (.object "ClickBench$Part"))) ({ frames := 1, cells := 0, slots := 0, locals := 26 } : Room) (mP D H0 S kc ns [.ref h0, .ref h1, .int i0]) (mQ D H0 gR (fun r S1 k1 n1 => S = S1 ∧ kc = k1 ∧ ns = n1 ∧ (∀ q, r = some q → mK S q = 6))) 0 0 (mF H0) := by
  refine r_met (own := RX3) (by decide +kernel) rfl (Nat.le_of_ble_eq_true rfl) ?_
  intro p e s m args below meth c C hr hlk hnm H ls hl hM
  obtain ⟨hx, hb, hml, hown, hts, -, -⟩ := id C
  have hl : lv_has ls 6 [(0, .ref h0), (1, .ref h1), (2, .int i0)] := hl
  have t_0 : (0 : Int32).toInt = 0 := by decide
  have t_1 : (1 : Int32).toInt = 1 := by decide
  refine lv_aload_n hx hb dX3_stepOn_0 rfl (lv_at hl 0 rfl) ?_
  refine r_get (ci := 3) (k := 2) (v := .int (mI S 302 h0)) C hM kh0 f_X3_19 rfl dX3_stepOn_1 ?_
  refine lv_topi (fun xv1 exv1 => ?_)
  refine lv_iload_n hx hb dX3_stepOn_4 rfl (lv_at hl 2 rfl) ?_
  refine lv_aload_n hx hb dX3_stepOn_5 rfl (lv_at hl 0 rfl) ?_
  refine r_get (ci := 3) (k := 3) (v := .int (mI S 303 h0)) C hM kh0 f_X3_22 rfl dX3_stepOn_6 ?_
  refine lv_topi (fun xv2 exv2 => ?_)
  refine lv_imul hx hb dX3_stepOn_9 ?_
  refine lv_topi (fun xv3 exv3 => ?_)
  refine lv_iadd hx hb dX3_stepOn_10 ?_
  refine lv_topi (fun xv4 exv4 => ?_)
  try (have txv4 := addI (a := xv1) (b := xv3) (by omega) (by omega); rw [← exv4] at txv4)
  refine lv_istore_n (lv' := [(3, .int xv4), (0, .ref h0), (1, .ref h1), (2, .int i0)]) hx hb dX3_stepOn_11 rfl hl (by decide) rfl (fun ls hl => ?_)
  refine lv_iconst (v := 0) hx hb dX3_stepOn_12 (by decide) ?_
  refine lv_istore (lv' := [(4, .int 0), (3, .int xv4), (0, .ref h0), (1, .ref h1), (2, .int i0)]) hx hb dX3_stepOn_13 hl (by decide) rfl (fun ls hl => ?_)
  have loop15 : ∀ (fu : Nat) (j : Int32) (H : Heap) (locs : List Loc) (ls : Array Slot), (0 ≤ j.toInt) → (60 - j.toInt).toNat < fu → lv_has ls 6 [(0, .ref h0), (1, .ref h1), (2, .int i0), (3, .int xv4), (4, .int j)] → mH D H0 S kc ns H locs → W p l e ({ frames := 1, cells := 0, slots := 0, locals := 26 } : Room) s m args below meth c H locs 0 0 (MQ below (mQ D H0 gR (fun r S1 k1 n1 => S = S1 ∧ kc = k1 ∧ ns = n1 ∧ (∀ q, r = some q → mK S q = 6))) args s 0 0 (mF H0)) (F0 m 15 ls []) := by
    intro fu
    induction fu with
    | zero => intro j H locs ls h15_0 hfu; exact absurd hfu (by omega)
    | succ fu ih15 =>
      intro j H locs ls h15_0 hfu hl hM
      refine lv_iload hx hb dX3_stepOn_15 (lv_at hl 4 rfl) ?_
      refine lv_aload_n hx hb dX3_stepOn_17 rfl (lv_at hl 1 rfl) ?_
      refine r_getN (ci := 4) (k := 1) (v := .int (mI S 401 h1)) C hM kh1 f_X3_53 rfl dX3_stepOn_18 ?_
      refine lv_topi (fun xv5 exv5 => ?_)
      have fxv5 := NI.f401 hI.2 kh1
      rw [← exv5] at fxv5
      refine lv_icmp_ge (tgt := 63) hx hb dX3_stepOn_21 (by decide) (fun cv6 => ?_) (fun cv6 => ?_)
      · have tcv6 := leT cv6
        refine lv_null hx hb dX3_stepOn_63 ?_
        exact r_retR (v := none) C hr hlk hM (⟨rfl, rfl, rfl, fun z h => by cases h⟩) dX3_stepOn_64
      · have tcv6 := leF cv6
        refine lv_aload_n hx hb dX3_stepOn_24 rfl (lv_at hl 1 rfl) ?_
        refine lv_iload hx hb dX3_stepOn_25 (lv_at hl 4 rfl) ?_
        refine r_VN (As := [.int j]) (rest := []) (ci := 4) C hM (c_X4_at l D H0 S kc ns h1 j hI id kh1) i_X4_at m_X3_58 kh1 rfl rfl rfl hl.1 rfl (Nat.le_of_ble_eq_true rfl) ⟨by decide, by decide⟩ ⟨by decide, by decide⟩ dX3_stepOn_27 (fun rv10 Sv7 kv8 nv9 H locs pv11 hM => ?_)
        obtain ⟨rfl, rfl, rfl, krv10⟩ := pv11
        refine W.eq (g2 := F0 m 30 ls [va_rf rv10]) rfl ?_
        refine lv_astoreQ (lv' := [(5, va_rf rv10), (0, .ref h0), (1, .ref h1), (2, .int i0), (3, .int xv4), (4, .int j)]) hx hb dX3_stepOn_30 hl (by decide) rfl (fun ls hl => ?_)
        refine lv_aloadQ hx hb dX3_stepOn_32 (lv_at hl 0 rfl) ?_
        cases rv10 with
        | none =>
          refine lv_ifnullN (tgt := 57) hx hb dX3_stepOn_34 (by decide) ?_
          obtain ⟨xv13, exv13⟩ : ∃ y : Int32, y = j + 1 := ⟨_, rfl⟩
          try (have txv13 := addI (a := j) (b := 1) (by omega) (by omega); rw [← exv13] at txv13)
          refine lv_iinc (v := xv13) (lv' := [(4, .int xv13), (5, .null), (0, .ref h0), (1, .ref h1), (2, .int i0), (3, .int xv4)]) hx hb dX3_stepOn_57 hl (k := 5) rfl (by rw [exv13]; rfl) (by decide) rfl (fun ls hl => ?_)
          refine lv_goto (tgt := 15) hx hb dX3_stepOn_60 (by decide) ?_
          exact ih15 xv13 _ _ _ (by omega) (by omega) (lv_sub hl [2, 3, 4, 5, 0] rfl) hM
        | some qv12 =>
          have kqv12 : mK S qv12 = 6 := krv10 qv12 rfl
          refine lv_ifnull hx hb dX3_stepOn_34 ?_
          refine lv_aload hx hb dX3_stepOn_37 (lv_at hl 0 rfl) ?_
          refine lv_aload_n hx hb dX3_stepOn_39 rfl (lv_at hl 1 rfl) ?_
          obtain ⟨qv14, eqv14, kqv14, nqv14⟩ := TI.nn hI.1 (ci := 3) (k := 0) kh0
          refine r_get (ci := 3) (k := 0) (v := .ref qv14) C hM kh0 f_X3_9 (congrArg va_rf eqv14) dX3_stepOn_40 ?_
          refine lv_aload_n hx hb dX3_stepOn_43 rfl (lv_at hl 1 rfl) ?_
          refine r_get (ci := 3) (k := 1) (v := .int (mI S 301 h0)) C hM kh0 f_X3_15 rfl dX3_stepOn_44 ?_
          refine lv_topi (fun xv15 exv15 => ?_)
          refine lv_iload_n hx hb dX3_stepOn_47 rfl (lv_at hl 4 rfl) ?_
          refine r_VN (As := [.ref qv14, .int xv15, .int xv4]) (rest := []) (ci := 5) C hM (c_X5_hasPathOf l D H0 S kc ns qv12 qv14 xv15 xv4 hI kqv12 kqv14) i_X5_hasPathOf m_X3_62 kqv12 rfl rfl rfl hl.1 rfl (Nat.le_of_ble_eq_true rfl) ⟨by decide, by decide⟩ ⟨by decide, by decide⟩ dX3_stepOn_48 (fun xv19 Sv16 kv17 nv18 H locs pv20 hM => ?_)
          obtain ⟨rfl, rfl, rfl, hxv19⟩ := pv20
          refine W.eq (g2 := F0 m 51 ls [.int xv19]) rfl ?_
          refine lv_if_eq (tgt := 57) hx hb dX3_stepOn_51 (by decide) (fun cv21 => ?_) (fun cv21 => ?_)
          · have tcv21 := eqT cv21
            obtain ⟨xv22, exv22⟩ : ∃ y : Int32, y = j + 1 := ⟨_, rfl⟩
            try (have txv22 := addI (a := j) (b := 1) (by omega) (by omega); rw [← exv22] at txv22)
            refine lv_iinc (v := xv22) (lv' := [(4, .int xv22), (5, .ref qv12), (0, .ref h0), (1, .ref h1), (2, .int i0), (3, .int xv4)]) hx hb dX3_stepOn_57 hl (k := 5) rfl (by rw [exv22]; rfl) (by decide) rfl (fun ls hl => ?_)
            refine lv_goto (tgt := 15) hx hb dX3_stepOn_60 (by decide) ?_
            exact ih15 xv22 _ _ _ (by omega) (by omega) (lv_sub hl [2, 3, 4, 5, 0] rfl) hM
          · have tcv21 := eqF cv21
            refine lv_aload hx hb dX3_stepOn_54 (lv_at hl 0 rfl) ?_
            exact r_retR (v := (some qv12)) C hr hlk hM (⟨rfl, rfl, rfl, fun z h => by cases h; exact kqv12⟩) dX3_stepOn_56
  exact loop15 (((60 - (0 : Int32).toInt).toNat) + 1) 0 _ _ _ (by omega) (by omega) (lv_sub hl [2, 3, 4, 1, 0] rfl) hM
set_option maxHeartbeats 4000000 in
set_option maxRecDepth 100000 in
theorem c_X3_countRows (l : Launch) (D : gD) (H0 : gB) (S : Mem) (kc ns : Nat) (h0 h1 : Nat) {u : Nat} {tl : Int} {rho : Nat × Nat} (hI : CI x0 u tl rho S) (kh0 : mK S h0 = 4) (kh1 : mK S h1 = 5) : Met l yX3_countRows (wsU yX3_countRows cX3_countRows 3 (some .int)) ({ frames := 2, cells := 0, slots := 0, locals := 51 } : Room) (mP D H0 S kc ns [.ref h0, .ref h1]) (mQ D H0 gI (fun r S1 k1 n1 => S = S1 ∧ kc = k1 ∧ ns = n1 ∧ True)) 0 0 (mF H0) := by
  refine r_met (own := RX3) (by decide +kernel) rfl (Nat.le_of_ble_eq_true rfl) ?_
  intro p e s m args below meth c C hr hlk hnm H ls hl hM
  obtain ⟨hx, hb, hml, hown, hts, -, -⟩ := id C
  have hl : lv_has ls 3 [(0, .ref h0), (1, .ref h1)] := hl
  have t_0 : (0 : Int32).toInt = 0 := by decide
  have t_1 : (1 : Int32).toInt = 1 := by decide
  have t_60 : (60 : Int32).toInt = 60 := by decide
  refine lv_iconst (v := 0) hx hb dX3_countRows_0 (by decide) ?_
  refine lv_istore_n (lv' := [(2, .int 0), (0, .ref h0), (1, .ref h1)]) hx hb dX3_countRows_1 rfl hl (by decide) rfl (fun ls hl => ?_)
  have loop2 : ∀ (fu : Nat) (j : Int32) (H : Heap) (locs : List Loc) (ls : Array Slot), (0 ≤ j.toInt) → (60 - j.toInt).toNat < fu → lv_has ls 3 [(0, .ref h0), (1, .ref h1), (2, .int j)] → mH D H0 S kc ns H locs → W p l e ({ frames := 2, cells := 0, slots := 0, locals := 51 } : Room) s m args below meth c H locs 0 0 (MQ below (mQ D H0 gI (fun r S1 k1 n1 => S = S1 ∧ kc = k1 ∧ ns = n1 ∧ True)) args s 0 0 (mF H0)) (F0 m 2 ls []) := by
    intro fu
    induction fu with
    | zero => intro j H locs ls h2_0 hfu; exact absurd hfu (by omega)
    | succ fu ih2 =>
      intro j H locs ls h2_0 hfu hl hM
      refine lv_iload_n hx hb dX3_countRows_2 rfl (lv_at hl 2 rfl) ?_
      refine lv_bipush (v := 60) hx hb dX3_countRows_3 (by decide) ?_
      refine lv_icmp_ge (tgt := 23) hx hb dX3_countRows_5 (by decide) (fun cv1 => ?_) (fun cv1 => ?_)
      · have tcv1 := leT cv1
        refine lv_iload_n hx hb dX3_countRows_23 rfl (lv_at hl 2 rfl) ?_
        exact r_retI C hr hlk hM (⟨rfl, rfl, rfl, trivial⟩) dX3_countRows_24
      · have tcv1 := leF cv1
        refine lv_aload_n hx hb dX3_countRows_8 rfl (lv_at hl 0 rfl) ?_
        refine lv_aload_n hx hb dX3_countRows_9 rfl (lv_at hl 1 rfl) ?_
        refine lv_iload_n hx hb dX3_countRows_10 rfl (lv_at hl 2 rfl) ?_
        refine r_V (As := [.ref h1, .int j]) (rest := []) (ci := 3) C hM (c_X3_stepOn l D H0 S kc ns h0 h1 j hI kh0 kh1) i_X3_stepOn m_X3_66 kh0 rfl rfl rfl hl.1 rfl (Nat.le_of_ble_eq_true rfl) ⟨by decide, by decide⟩ ⟨by decide, by decide⟩ dX3_countRows_11 (fun rv5 Sv2 kv3 nv4 H locs pv6 hM => ?_)
        obtain ⟨rfl, rfl, rfl, krv5⟩ := pv6
        refine W.eq (g2 := F0 m 14 ls [va_rf rv5]) rfl ?_
        cases rv5 with
        | none =>
          refine lv_ifnullN (tgt := 23) hx hb dX3_countRows_14 (by decide) ?_
          refine lv_iload_n hx hb dX3_countRows_23 rfl (lv_at hl 2 rfl) ?_
          exact r_retI C hr hlk hM (⟨rfl, rfl, rfl, trivial⟩) dX3_countRows_24
        | some qv7 =>
          have kqv7 : mK S qv7 = 6 := krv5 qv7 rfl
          refine lv_ifnull hx hb dX3_countRows_14 ?_
          obtain ⟨xv8, exv8⟩ : ∃ y : Int32, y = j + 1 := ⟨_, rfl⟩
          try (have txv8 := addI (a := j) (b := 1) (by omega) (by omega); rw [← exv8] at txv8)
          refine lv_iinc (v := xv8) (lv' := [(2, .int xv8), (0, .ref h0), (1, .ref h1)]) hx hb dX3_countRows_17 hl (k := 2) rfl (by rw [exv8]; rfl) (by decide) rfl (fun ls hl => ?_)
          refine lv_goto (tgt := 2) hx hb dX3_countRows_20 (by decide) ?_
          exact ih2 xv8 _ _ _ (by omega) (by omega) (lv_sub hl [1, 2, 0] rfl) hM
  exact loop2 (((60 - (0 : Int32).toInt).toNat) + 1) 0 _ _ _ (by omega) (by omega) (lv_sub hl [1, 2, 0] rfl) hM
set_option maxHeartbeats 4000000 in
set_option maxRecDepth 100000 in
theorem c_X3_rowOn (l : Launch) (D : gD) (H0 : gB) (S : Mem) (kc ns : Nat) (h0 h1 : Nat) (i0 : Int32) {u : Nat} {tl : Int} {rho : Nat × Nat} (hI : CI x0 u tl rho S) (kh0 : mK S h0 = 4) (kh1 : mK S h1 = 5) : Met l yX3_rowOn (wsU yX3_rowOn cX3_rowOn 5 (some (.object "ClickBench$Part"))) ({ frames := 2, cells := 0, slots := 0, locals := 51 } : Room) (mP D H0 S kc ns [.ref h0, .ref h1, .int i0]) (mQ D H0 gR (fun r S1 k1 n1 => S = S1 ∧ kc = k1 ∧ ns = n1 ∧ (∀ q, r = some q → mK S q = 6))) 0 0 (mF H0) := by
  refine r_met (own := RX3) (by decide +kernel) rfl (Nat.le_of_ble_eq_true rfl) ?_
  intro p e s m args below meth c C hr hlk hnm H ls hl hM
  obtain ⟨hx, hb, hml, hown, hts, -, -⟩ := id C
  have hl : lv_has ls 5 [(0, .ref h0), (1, .ref h1), (2, .int i0)] := hl
  have t_0 : (0 : Int32).toInt = 0 := by decide
  have t_1 : (1 : Int32).toInt = 1 := by decide
  have t_60 : (60 : Int32).toInt = 60 := by decide
  refine lv_iconst (v := 0) hx hb dX3_rowOn_0 (by decide) ?_
  refine lv_istore_n (lv' := [(3, .int 0), (0, .ref h0), (1, .ref h1), (2, .int i0)]) hx hb dX3_rowOn_1 rfl hl (by decide) rfl (fun ls hl => ?_)
  have loop2 : ∀ (fu : Nat) (j : Int32) (H : Heap) (locs : List Loc) (ls : Array Slot), (0 ≤ j.toInt) → (60 - j.toInt).toNat < fu → lv_has ls 5 [(0, .ref h0), (1, .ref h1), (2, .int i0), (3, .int j)] → mH D H0 S kc ns H locs → W p l e ({ frames := 2, cells := 0, slots := 0, locals := 51 } : Room) s m args below meth c H locs 0 0 (MQ below (mQ D H0 gR (fun r S1 k1 n1 => S = S1 ∧ kc = k1 ∧ ns = n1 ∧ (∀ q, r = some q → mK S q = 6))) args s 0 0 (mF H0)) (F0 m 2 ls []) := by
    intro fu
    induction fu with
    | zero => intro j H locs ls h2_0 hfu; exact absurd hfu (by omega)
    | succ fu ih2 =>
      intro j H locs ls h2_0 hfu hl hM
      refine lv_iload_n hx hb dX3_rowOn_2 rfl (lv_at hl 3 rfl) ?_
      refine lv_bipush (v := 60) hx hb dX3_rowOn_3 (by decide) ?_
      refine lv_icmp_ge (tgt := 40) hx hb dX3_rowOn_5 (by decide) (fun cv1 => ?_) (fun cv1 => ?_)
      · have tcv1 := leT cv1
        refine lv_null hx hb dX3_rowOn_40 ?_
        exact r_retR (v := none) C hr hlk hM (⟨rfl, rfl, rfl, fun z h => by cases h⟩) dX3_rowOn_41
      · have tcv1 := leF cv1
        refine lv_iload_n hx hb dX3_rowOn_8 rfl (lv_at hl 3 rfl) ?_
        refine lv_iload_n hx hb dX3_rowOn_9 rfl (lv_at hl 2 rfl) ?_
        refine lv_icmp_gt (tgt := 40) hx hb dX3_rowOn_10 (by decide) (fun cv2 => ?_) (fun cv2 => ?_)
        · have tcv2 := ltT cv2
          refine lv_null hx hb dX3_rowOn_40 ?_
          exact r_retR (v := none) C hr hlk hM (⟨rfl, rfl, rfl, fun z h => by cases h⟩) dX3_rowOn_41
        · have tcv2 := ltF cv2
          refine lv_aload_n hx hb dX3_rowOn_13 rfl (lv_at hl 0 rfl) ?_
          refine lv_aload_n hx hb dX3_rowOn_14 rfl (lv_at hl 1 rfl) ?_
          refine lv_iload_n hx hb dX3_rowOn_15 rfl (lv_at hl 3 rfl) ?_
          refine r_V (As := [.ref h1, .int j]) (rest := []) (ci := 3) C hM (c_X3_stepOn l D H0 S kc ns h0 h1 j hI kh0 kh1) i_X3_stepOn m_X3_66 kh0 rfl rfl rfl hl.1 rfl (Nat.le_of_ble_eq_true rfl) ⟨by decide, by decide⟩ ⟨by decide, by decide⟩ dX3_rowOn_16 (fun rv6 Sv3 kv4 nv5 H locs pv7 hM => ?_)
          obtain ⟨rfl, rfl, rfl, krv6⟩ := pv7
          refine W.eq (g2 := F0 m 19 ls [va_rf rv6]) rfl ?_
          refine lv_astoreQ (lv' := [(4, va_rf rv6), (0, .ref h0), (1, .ref h1), (2, .int i0), (3, .int j)]) hx hb dX3_rowOn_19 hl (by decide) rfl (fun ls hl => ?_)
          refine lv_aloadQ hx hb dX3_rowOn_21 (lv_at hl 0 rfl) ?_
          cases rv6 with
          | none =>
            refine lv_ifnullN (tgt := 31) hx hb dX3_rowOn_23 (by decide) ?_
            refine lv_aloadN hx hb dX3_rowOn_31 (lv_at hl 0 rfl) ?_
            exact r_retR (v := none) C hr hlk hM (⟨rfl, rfl, rfl, fun z h => by cases h⟩) dX3_rowOn_33
          | some qv8 =>
            have kqv8 : mK S qv8 = 6 := krv6 qv8 rfl
            refine lv_ifnull hx hb dX3_rowOn_23 ?_
            refine lv_iload_n hx hb dX3_rowOn_26 rfl (lv_at hl 4 rfl) ?_
            refine lv_iload_n hx hb dX3_rowOn_27 rfl (lv_at hl 3 rfl) ?_
            refine lv_icmp_ne (tgt := 34) hx hb dX3_rowOn_28 (by decide) (fun cv9 => ?_) (fun cv9 => ?_)
            · have tcv9 := eqF cv9
              obtain ⟨xv10, exv10⟩ : ∃ y : Int32, y = j + 1 := ⟨_, rfl⟩
              try (have txv10 := addI (a := j) (b := 1) (by omega) (by omega); rw [← exv10] at txv10)
              refine lv_iinc (v := xv10) (lv' := [(3, .int xv10), (4, .ref qv8), (0, .ref h0), (1, .ref h1), (2, .int i0)]) hx hb dX3_rowOn_34 hl (k := 4) rfl (by rw [exv10]; rfl) (by decide) rfl (fun ls hl => ?_)
              refine lv_goto (tgt := 2) hx hb dX3_rowOn_37 (by decide) ?_
              exact ih2 xv10 _ _ _ (by omega) (by omega) (lv_sub hl [2, 3, 4, 0] rfl) hM
            · have tcv9 := eqT cv9
              refine lv_aload hx hb dX3_rowOn_31 (lv_at hl 0 rfl) ?_
              exact r_retR (v := (some qv8)) C hr hlk hM (⟨rfl, rfl, rfl, fun z h => by cases h; exact kqv8⟩) dX3_rowOn_33
  exact loop2 (((60 - (0 : Int32).toInt).toNat) + 1) 0 _ _ _ (by omega) (by omega) (lv_sub hl [1, 2, 3, 0] rfl) hM
