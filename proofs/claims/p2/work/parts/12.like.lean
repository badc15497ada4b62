set_option maxHeartbeats 4000000 in
set_option maxRecDepth 100000 in
theorem c_J6_bitCount_0f7a4 (l : Launch) (D : gD) (H0 : Heap) (S : Mem) (kc ns : Nat) (i0 : Int32) : Met l yJ6_bitCount_0f7a4 (wsU yJ6_bitCount_0f7a4 cJ6_bitCount_0f7a4 1 (some .int)) ({ frames := 0, cells := 0, slots := 0, locals := 0 } : Room) (mP D H0 S kc ns [.int i0]) (mQ D H0 gI (fun r S1 k1 n1 => S = S1 ∧ kc = k1 ∧ ns = n1 ∧ True)) 0 0 (mF H0) := by
  refine r_met (own := "java/lang/Integer") (by decide +kernel) rfl (Nat.le_of_ble_eq_true rfl) ?_
  intro p e s m args below meth c C hr hlk hnm H ls hl hM
  obtain ⟨hx, hb, hml, hown, hts, -, -⟩ := id C
  have hl : lv_has ls 1 [(0, .int i0)] := hl
  have t_0 : (0 : Int32).toInt = 0 := by decide
  have t_1 : (1 : Int32).toInt = 1 := by decide
  have t_2 : (2 : Int32).toInt = 2 := by decide
  have t_4 : (4 : Int32).toInt = 4 := by decide
  have t_8 : (8 : Int32).toInt = 8 := by decide
  have t_16 : (16 : Int32).toInt = 16 := by decide
  have t_63 : (63 : Int32).toInt = 63 := by decide
  refine lv_iload_n hx hb dJ6_bitCount_0f7a4_0 rfl (lv_at hl 0 rfl) ?_
  refine lv_iload_n hx hb dJ6_bitCount_0f7a4_1 rfl (lv_at hl 0 rfl) ?_
  refine lv_iconst (v := 1) hx hb dJ6_bitCount_0f7a4_2 (by decide) ?_
  refine lv_iushr hx hb dJ6_bitCount_0f7a4_3 rfl ?_
  refine lv_topi (fun x1 ex1 => ?_)
  refine lv_ldcw hx hb hown (hts _ q_java_lang_Integer_265) dJ6_bitCount_0f7a4_4 ?_
  refine lv_iand hx hb dJ6_bitCount_0f7a4_7 ?_
  refine lv_topi (fun x2 ex2 => ?_)
  refine lv_isub hx hb dJ6_bitCount_0f7a4_8 ?_
  refine lv_topi (fun x3 ex3 => ?_)
  refine lv_istore_n (lv' := [(0, .int x3)]) hx hb dJ6_bitCount_0f7a4_9 rfl hl (by decide) rfl (fun ls hl => ?_)
  refine lv_iload_n hx hb dJ6_bitCount_0f7a4_10 rfl (lv_at hl 0 rfl) ?_
  refine lv_ldcw hx hb hown (hts _ q_java_lang_Integer_266) dJ6_bitCount_0f7a4_11 ?_
  refine lv_iand hx hb dJ6_bitCount_0f7a4_14 ?_
  refine lv_topi (fun x4 ex4 => ?_)
  refine lv_iload_n hx hb dJ6_bitCount_0f7a4_15 rfl (lv_at hl 0 rfl) ?_
  refine lv_iconst (v := 2) hx hb dJ6_bitCount_0f7a4_16 (by decide) ?_
  refine lv_iushr hx hb dJ6_bitCount_0f7a4_17 rfl ?_
  refine lv_topi (fun x5 ex5 => ?_)
  refine lv_ldcw hx hb hown (hts _ q_java_lang_Integer_266) dJ6_bitCount_0f7a4_18 ?_
  refine lv_iand hx hb dJ6_bitCount_0f7a4_21 ?_
  refine lv_topi (fun x6 ex6 => ?_)
  refine lv_iadd hx hb dJ6_bitCount_0f7a4_22 ?_
  refine lv_topi (fun x7 ex7 => ?_)
  refine lv_istore_n (lv' := [(0, .int x7)]) hx hb dJ6_bitCount_0f7a4_23 rfl hl (by decide) rfl (fun ls hl => ?_)
  refine lv_iload_n hx hb dJ6_bitCount_0f7a4_24 rfl (lv_at hl 0 rfl) ?_
  refine lv_iload_n hx hb dJ6_bitCount_0f7a4_25 rfl (lv_at hl 0 rfl) ?_
  refine lv_iconst (v := 4) hx hb dJ6_bitCount_0f7a4_26 (by decide) ?_
  refine lv_iushr hx hb dJ6_bitCount_0f7a4_27 rfl ?_
  refine lv_topi (fun x8 ex8 => ?_)
  refine lv_iadd hx hb dJ6_bitCount_0f7a4_28 ?_
  refine lv_topi (fun x9 ex9 => ?_)
  refine lv_ldcw hx hb hown (hts _ q_java_lang_Integer_267) dJ6_bitCount_0f7a4_29 ?_
  refine lv_iand hx hb dJ6_bitCount_0f7a4_32 ?_
  refine lv_topi (fun x10 ex10 => ?_)
  refine lv_istore_n (lv' := [(0, .int x10)]) hx hb dJ6_bitCount_0f7a4_33 rfl hl (by decide) rfl (fun ls hl => ?_)
  refine lv_iload_n hx hb dJ6_bitCount_0f7a4_34 rfl (lv_at hl 0 rfl) ?_
  refine lv_iload_n hx hb dJ6_bitCount_0f7a4_35 rfl (lv_at hl 0 rfl) ?_
  refine lv_bipush (v := 8) hx hb dJ6_bitCount_0f7a4_36 (by decide) ?_
  refine lv_iushr hx hb dJ6_bitCount_0f7a4_38 rfl ?_
  refine lv_topi (fun x11 ex11 => ?_)
  refine lv_iadd hx hb dJ6_bitCount_0f7a4_39 ?_
  refine lv_topi (fun x12 ex12 => ?_)
  refine lv_istore_n (lv' := [(0, .int x12)]) hx hb dJ6_bitCount_0f7a4_40 rfl hl (by decide) rfl (fun ls hl => ?_)
  refine lv_iload_n hx hb dJ6_bitCount_0f7a4_41 rfl (lv_at hl 0 rfl) ?_
  refine lv_iload_n hx hb dJ6_bitCount_0f7a4_42 rfl (lv_at hl 0 rfl) ?_
  refine lv_bipush (v := 16) hx hb dJ6_bitCount_0f7a4_43 (by decide) ?_
  refine lv_iushr hx hb dJ6_bitCount_0f7a4_45 rfl ?_
  refine lv_topi (fun x13 ex13 => ?_)
  refine lv_iadd hx hb dJ6_bitCount_0f7a4_46 ?_
  refine lv_topi (fun x14 ex14 => ?_)
  refine lv_istore_n (lv' := [(0, .int x14)]) hx hb dJ6_bitCount_0f7a4_47 rfl hl (by decide) rfl (fun ls hl => ?_)
  refine lv_iload_n hx hb dJ6_bitCount_0f7a4_48 rfl (lv_at hl 0 rfl) ?_
  refine lv_bipush (v := 63) hx hb dJ6_bitCount_0f7a4_49 (by decide) ?_
  refine lv_iand hx hb dJ6_bitCount_0f7a4_51 ?_
  refine lv_topi (fun x15 ex15 => ?_)
  exact r_retI C hr hlk hM (⟨rfl, rfl, rfl, trivial⟩) dJ6_bitCount_0f7a4_52
set_option maxHeartbeats 4000000 in
set_option maxRecDepth 100000 in
theorem c_X2_change (l : Launch) (D : gD) (H0 : Heap) (S : Mem) (kc ns : Nat) (h0 h1 : Nat) {u : Nat} {tl : Int} {rho : Nat} (hI : CI x0 u tl rho S) (kh0 : mK S h0 = 6) (kh1 : mK S h1 = 6) : Met l yX2_change (wsU yX2_change cX2_change 2 (some .int)) ({ frames := 1, cells := 0, slots := 0, locals := 21 } : Room) (mP D H0 S kc ns [.ref h0, .ref h1]) (mQ D H0 gI (fun r S1 k1 n1 => S = S1 ∧ kc = k1 ∧ ns = n1 ∧ True)) 0 0 (mF H0) := by
  refine r_met (own := RX2) (by decide +kernel) rfl (Nat.le_of_ble_eq_true rfl) ?_
  intro p e s m args below meth c C hr hlk hnm H ls hl hM
  obtain ⟨hx, hb, hml, hown, hts, -, -⟩ := id C
  have hl : lv_has ls 2 [(0, .ref h0), (1, .ref h1)] := hl
  have t_0 : (0 : Int32).toInt = 0 := by decide
  have t_1 : (1 : Int32).toInt = 1 := by decide
  have t_2 : (2 : Int32).toInt = 2 := by decide
  have t_4 : (4 : Int32).toInt = 4 := by decide
  refine lv_aload_n hx hb dX2_change_0 rfl (lv_at hl 0 rfl) ?_
  refine r_getN (ci := 5) (k := 2) (v := .long (mL S 502 h0)) C hM kh0 f_X2_81 rfl dX2_change_1 ?_
  refine lv_topl (fun l1 el1 => ?_)
  refine lv_aload_n hx hb dX2_change_4 rfl (lv_at hl 1 rfl) ?_
  refine r_getN (ci := 5) (k := 2) (v := .long (mL S 502 h1)) C hM kh1 f_X2_81 rfl dX2_change_5 ?_
  refine lv_topl (fun l2 el2 => ?_)
  refine W.lcmp hx hb dX2_change_8 ?_
  refine lv_topi (fun x3 ex3 => ?_)
  refine lv_if_ne (tgt := 16) hx hb dX2_change_9 (by decide) (fun c4 => ?_) (fun c4 => ?_)
  · have tc4 := eqF c4
    refine lv_iconst (v := 4) hx hb dX2_change_16 (by decide) ?_
    refine lv_aload_n hx hb dX2_change_17 rfl (lv_at hl 0 rfl) ?_
    refine r_getN (ci := 5) (k := 10) (v := .long (mL S 510 h0)) C hM kh0 f_X2_85 rfl dX2_change_18 ?_
    refine lv_topl (fun l5 el5 => ?_)
    refine lv_aload_n hx hb dX2_change_21 rfl (lv_at hl 1 rfl) ?_
    refine r_getN (ci := 5) (k := 10) (v := .long (mL S 510 h1)) C hM kh1 f_X2_85 rfl dX2_change_22 ?_
    refine lv_topl (fun l6 el6 => ?_)
    refine W.lcmp hx hb dX2_change_25 ?_
    refine lv_topi (fun x7 ex7 => ?_)
    refine lv_if_ne (tgt := 33) hx hb dX2_change_26 (by decide) (fun c8 => ?_) (fun c8 => ?_)
    · have tc8 := eqF c8
      refine lv_iconst (v := 2) hx hb dX2_change_33 (by decide) ?_
      refine lv_iadd hx hb dX2_change_34 ?_
      refine lv_topi (fun x9 ex9 => ?_)
      refine lv_aload_n hx hb dX2_change_35 rfl (lv_at hl 0 rfl) ?_
      refine lv_aload_n hx hb dX2_change_36 rfl (lv_at hl 1 rfl) ?_
      refine r_VN (As := [.ref h1]) (rest := [.int x9]) (ci := 5) C hM (c_X5_hasTextOf l D H0 S kc ns h0 h1 hI kh0 kh1) i_X5_hasTextOf m_X2_88 kh0 rfl rfl rfl hl.1 rfl (Nat.le_of_ble_eq_true rfl) ⟨by decide, by decide⟩ ⟨by decide, by decide⟩ dX2_change_37 (fun x13 S10 k11 n12 H locs p14 hM => ?_)
      obtain ⟨rfl, rfl, rfl, hx13⟩ := p14
      refine W.eq (g2 := F0 m 40 ls [.int x13, .int x9]) rfl ?_
      refine lv_if_eq (tgt := 47) hx hb dX2_change_40 (by decide) (fun c15 => ?_) (fun c15 => ?_)
      · have tc15 := eqT c15
        refine lv_iconst (v := 1) hx hb dX2_change_47 (by decide) ?_
        refine lv_iadd hx hb dX2_change_48 ?_
        refine lv_topi (fun x16 ex16 => ?_)
        exact r_retI C hr hlk hM (⟨rfl, rfl, rfl, trivial⟩) dX2_change_49
      · have tc15 := eqF c15
        refine lv_iconst (v := 0) hx hb dX2_change_43 (by decide) ?_
        refine lv_goto (tgt := 48) hx hb dX2_change_44 (by decide) ?_
        refine lv_iadd hx hb dX2_change_48 ?_
        refine lv_topi (fun x17 ex17 => ?_)
        exact r_retI C hr hlk hM (⟨rfl, rfl, rfl, trivial⟩) dX2_change_49
    · have tc8 := eqT c8
      refine lv_iconst (v := 0) hx hb dX2_change_29 (by decide) ?_
      refine lv_goto (tgt := 34) hx hb dX2_change_30 (by decide) ?_
      refine lv_iadd hx hb dX2_change_34 ?_
      refine lv_topi (fun x18 ex18 => ?_)
      refine lv_aload_n hx hb dX2_change_35 rfl (lv_at hl 0 rfl) ?_
      refine lv_aload_n hx hb dX2_change_36 rfl (lv_at hl 1 rfl) ?_
      refine r_VN (As := [.ref h1]) (rest := [.int x18]) (ci := 5) C hM (c_X5_hasTextOf l D H0 S kc ns h0 h1 hI kh0 kh1) i_X5_hasTextOf m_X2_88 kh0 rfl rfl rfl hl.1 rfl (Nat.le_of_ble_eq_true rfl) ⟨by decide, by decide⟩ ⟨by decide, by decide⟩ dX2_change_37 (fun x22 S19 k20 n21 H locs p23 hM => ?_)
      obtain ⟨rfl, rfl, rfl, hx22⟩ := p23
      refine W.eq (g2 := F0 m 40 ls [.int x22, .int x18]) rfl ?_
      refine lv_if_eq (tgt := 47) hx hb dX2_change_40 (by decide) (fun c24 => ?_) (fun c24 => ?_)
      · have tc24 := eqT c24
        refine lv_iconst (v := 1) hx hb dX2_change_47 (by decide) ?_
        refine lv_iadd hx hb dX2_change_48 ?_
        refine lv_topi (fun x25 ex25 => ?_)
        exact r_retI C hr hlk hM (⟨rfl, rfl, rfl, trivial⟩) dX2_change_49
      · have tc24 := eqF c24
        refine lv_iconst (v := 0) hx hb dX2_change_43 (by decide) ?_
        refine lv_goto (tgt := 48) hx hb dX2_change_44 (by decide) ?_
        refine lv_iadd hx hb dX2_change_48 ?_
        refine lv_topi (fun x26 ex26 => ?_)
        exact r_retI C hr hlk hM (⟨rfl, rfl, rfl, trivial⟩) dX2_change_49
  · have tc4 := eqT c4
    refine lv_iconst (v := 0) hx hb dX2_change_12 (by decide) ?_
    refine lv_goto (tgt := 17) hx hb dX2_change_13 (by decide) ?_
    refine lv_aload_n hx hb dX2_change_17 rfl (lv_at hl 0 rfl) ?_
    refine r_getN (ci := 5) (k := 10) (v := .long (mL S 510 h0)) C hM kh0 f_X2_85 rfl dX2_change_18 ?_
    refine lv_topl (fun l27 el27 => ?_)
    refine lv_aload_n hx hb dX2_change_21 rfl (lv_at hl 1 rfl) ?_
    refine r_getN (ci := 5) (k := 10) (v := .long (mL S 510 h1)) C hM kh1 f_X2_85 rfl dX2_change_22 ?_
    refine lv_topl (fun l28 el28 => ?_)
    refine W.lcmp hx hb dX2_change_25 ?_
    refine lv_topi (fun x29 ex29 => ?_)
    refine lv_if_ne (tgt := 33) hx hb dX2_change_26 (by decide) (fun c30 => ?_) (fun c30 => ?_)
    · have tc30 := eqF c30
      refine lv_iconst (v := 2) hx hb dX2_change_33 (by decide) ?_
      refine lv_iadd hx hb dX2_change_34 ?_
      refine lv_topi (fun x31 ex31 => ?_)
      refine lv_aload_n hx hb dX2_change_35 rfl (lv_at hl 0 rfl) ?_
      refine lv_aload_n hx hb dX2_change_36 rfl (lv_at hl 1 rfl) ?_
      refine r_VN (As := [.ref h1]) (rest := [.int x31]) (ci := 5) C hM (c_X5_hasTextOf l D H0 S kc ns h0 h1 hI kh0 kh1) i_X5_hasTextOf m_X2_88 kh0 rfl rfl rfl hl.1 rfl (Nat.le_of_ble_eq_true rfl) ⟨by decide, by decide⟩ ⟨by decide, by decide⟩ dX2_change_37 (fun x35 S32 k33 n34 H locs p36 hM => ?_)
      obtain ⟨rfl, rfl, rfl, hx35⟩ := p36
      refine W.eq (g2 := F0 m 40 ls [.int x35, .int x31]) rfl ?_
      refine lv_if_eq (tgt := 47) hx hb dX2_change_40 (by decide) (fun c37 => ?_) (fun c37 => ?_)
      · have tc37 := eqT c37
        refine lv_iconst (v := 1) hx hb dX2_change_47 (by decide) ?_
        refine lv_iadd hx hb dX2_change_48 ?_
        refine lv_topi (fun x38 ex38 => ?_)
        exact r_retI C hr hlk hM (⟨rfl, rfl, rfl, trivial⟩) dX2_change_49
      · have tc37 := eqF c37
        refine lv_iconst (v := 0) hx hb dX2_change_43 (by decide) ?_
        refine lv_goto (tgt := 48) hx hb dX2_change_44 (by decide) ?_
        refine lv_iadd hx hb dX2_change_48 ?_
        refine lv_topi (fun x39 ex39 => ?_)
        exact r_retI C hr hlk hM (⟨rfl, rfl, rfl, trivial⟩) dX2_change_49
    · have tc30 := eqT c30
      refine lv_iconst (v := 0) hx hb dX2_change_29 (by decide) ?_
      refine lv_goto (tgt := 34) hx hb dX2_change_30 (by decide) ?_
      refine lv_iadd hx hb dX2_change_34 ?_
      refine lv_topi (fun x40 ex40 => ?_)
      refine lv_aload_n hx hb dX2_change_35 rfl (lv_at hl 0 rfl) ?_
      refine lv_aload_n hx hb dX2_change_36 rfl (lv_at hl 1 rfl) ?_
      refine r_VN (As := [.ref h1]) (rest := [.int x40]) (ci := 5) C hM (c_X5_hasTextOf l D H0 S kc ns h0 h1 hI kh0 kh1) i_X5_hasTextOf m_X2_88 kh0 rfl rfl rfl hl.1 rfl (Nat.le_of_ble_eq_true rfl) ⟨by decide, by decide⟩ ⟨by decide, by decide⟩ dX2_change_37 (fun x44 S41 k42 n43 H locs p45 hM => ?_)
      obtain ⟨rfl, rfl, rfl, hx44⟩ := p45
      refine W.eq (g2 := F0 m 40 ls [.int x44, .int x40]) rfl ?_
      refine lv_if_eq (tgt := 47) hx hb dX2_change_40 (by decide) (fun c46 => ?_) (fun c46 => ?_)
      · have tc46 := eqT c46
        refine lv_iconst (v := 1) hx hb dX2_change_47 (by decide) ?_
        refine lv_iadd hx hb dX2_change_48 ?_
        refine lv_topi (fun x47 ex47 => ?_)
        exact r_retI C hr hlk hM (⟨rfl, rfl, rfl, trivial⟩) dX2_change_49
      · have tc46 := eqF c46
        refine lv_iconst (v := 0) hx hb dX2_change_43 (by decide) ?_
        refine lv_goto (tgt := 48) hx hb dX2_change_44 (by decide) ?_
        refine lv_iadd hx hb dX2_change_48 ?_
        refine lv_topi (fun x48 ex48 => ?_)
        exact r_retI C hr hlk hM (⟨rfl, rfl, rfl, trivial⟩) dX2_change_49
set_option maxHeartbeats 4000000 in
set_option maxRecDepth 100000 in
theorem c_X2_changeAlone (l : Launch) (D : gD) (H0 : Heap) (S : Mem) (kc ns : Nat) (o0 o1 : Option Nat) {u : Nat} {tl : Int} {rho : Nat} (hI : CI x0 u tl rho S) (ko0 : ∀ q, o0 = some q → mK S q = 6) (ko1 : ∀ q, o1 = some q → mK S q = 6) : Met l yX2_changeAlone (wsU yX2_changeAlone cX2_changeAlone 2 (some .int)) ({ frames := 2, cells := 0, slots := 0, locals := 42 } : Room) (mP D H0 S kc ns [va_rf o0, va_rf o1]) (mQ D H0 gI (fun r S1 k1 n1 => S = S1 ∧ kc = k1 ∧ ns = n1 ∧ True)) 0 0 (mF H0) := by
  refine r_met (own := RX2) (by decide +kernel) rfl (by simp [lg_sl, cat_rf, cat_i, cat_l, cat_a, cat_n]) ?_
  intro p e s m args below meth c C hr hlk hnm H ls hl hM
  obtain ⟨hx, hb, hml, hown, hts, -, -⟩ := id C
  have hl : lv_has ls 2 [(0, va_rf o0), (1, va_rf o1)] := by simpa [lv_args, cat_rf, cat_i, cat_l, cat_a, cat_n] using hl
  have t_0 : (0 : Int32).toInt = 0 := by decide
  have t_3 : (3 : Int32).toInt = 3 := by decide
  refine lv_aload_nQ hx hb dX2_changeAlone_0 rfl (lv_at hl 0 rfl) ?_
  cases o0 with
  | none =>
    refine lv_ifnullN (tgt := 8) hx hb dX2_changeAlone_1 (by decide) ?_
    refine lv_aload_nN hx hb dX2_changeAlone_8 rfl (lv_at hl 0 rfl) ?_
    refine lv_aload_nQ hx hb dX2_changeAlone_9 rfl (lv_at hl 1 rfl) ?_
    refine lv_acmp_ne (rx := none) (ry := o1) (tgt := 17) hx hb dX2_changeAlone_10 (by decide) (fun c2 => ?_) (fun c2 => ?_)
    · have tc2 := trivial
      refine lv_iconst (v := 3) hx hb dX2_changeAlone_17 (by decide) ?_
      exact r_retI C hr hlk hM (⟨rfl, rfl, rfl, trivial⟩) dX2_changeAlone_18
    · have tc2 := trivial
      refine lv_iconst (v := 0) hx hb dX2_changeAlone_13 (by decide) ?_
      refine lv_goto (tgt := 18) hx hb dX2_changeAlone_14 (by decide) ?_
      exact r_retI C hr hlk hM (⟨rfl, rfl, rfl, trivial⟩) dX2_changeAlone_18
  | some q1 =>
    have kq1 : mK S q1 = 6 := ko0 q1 rfl
    refine lv_ifnull hx hb dX2_changeAlone_1 ?_
    refine lv_aload_nQ hx hb dX2_changeAlone_4 rfl (lv_at hl 1 rfl) ?_
    cases o1 with
    | none =>
      refine lv_ifnonnullN hx hb dX2_changeAlone_5 ?_
      refine lv_aload_n hx hb dX2_changeAlone_8 rfl (lv_at hl 0 rfl) ?_
      refine lv_aload_nN hx hb dX2_changeAlone_9 rfl (lv_at hl 1 rfl) ?_
      refine lv_acmp_ne (rx := some q1) (ry := none) (tgt := 17) hx hb dX2_changeAlone_10 (by decide) (fun c4 => ?_) (fun c4 => ?_)
      · have tc4 := trivial
        refine lv_iconst (v := 3) hx hb dX2_changeAlone_17 (by decide) ?_
        exact r_retI C hr hlk hM (⟨rfl, rfl, rfl, trivial⟩) dX2_changeAlone_18
      · have tc4 := trivial
        refine lv_iconst (v := 0) hx hb dX2_changeAlone_13 (by decide) ?_
        refine lv_goto (tgt := 18) hx hb dX2_changeAlone_14 (by decide) ?_
        exact r_retI C hr hlk hM (⟨rfl, rfl, rfl, trivial⟩) dX2_changeAlone_18
    | some q3 =>
      have kq3 : mK S q3 = 6 := ko1 q3 rfl
      refine lv_ifnonnull (tgt := 19) hx hb dX2_changeAlone_5 (by decide) ?_
      refine lv_aload_n hx hb dX2_changeAlone_19 rfl (lv_at hl 0 rfl) ?_
      refine lv_aload_n hx hb dX2_changeAlone_20 rfl (lv_at hl 1 rfl) ?_
      refine r_S (As := [.ref q1, .ref q3]) (rest := []) C hM (c_X2_change l D H0 S kc ns q1 q3 hI kq1 kq3) i_X2_change m_X2_78 rfl hl.1 rfl (Nat.le_of_ble_eq_true rfl) ⟨by decide, by decide⟩ ⟨by decide, by decide⟩ dX2_changeAlone_21 (fun x8 S5 k6 n7 H locs p9 hM => ?_)
      obtain ⟨rfl, rfl, rfl, hx8⟩ := p9
      refine W.eq (g2 := F0 m 24 ls [.int x8]) rfl ?_
      exact r_retI C hr hlk hM (⟨rfl, rfl, rfl, trivial⟩) dX2_changeAlone_24
set_option maxHeartbeats 4000000 in
set_option maxRecDepth 100000 in
theorem c_X2_farOf (l : Launch) (D : gD) (H0 : Heap) (S : Mem) (kc ns : Nat) (h0 h1 h2 : Nat) {u : Nat} {tl : Int} {rho : Nat} (hI : CI x0 u tl rho S) (kh0 : mK S h0 = 3) (kh1 : mK S h1 = 6) (kh2 : mK S h2 = 6) : Met l yX2_farOf (wsU yX2_farOf cX2_farOf 4 (some .int)) ({ frames := 0, cells := 0, slots := 0, locals := 0 } : Room) (mP D H0 S kc ns [.ref h0, .ref h1, .ref h2]) (mQ D H0 gI (fun r S1 k1 n1 => S = S1 ∧ kc = k1 ∧ ns = n1 ∧ True)) 0 0 (mF H0) := by
  refine r_met (own := RX2) (by decide +kernel) rfl (Nat.le_of_ble_eq_true rfl) ?_
  intro p e s m args below meth c C hr hlk hnm H ls hl hM
  obtain ⟨hx, hb, hml, hown, hts, -, -⟩ := id C
  have hl : lv_has ls 4 [(0, .ref h0), (1, .ref h1), (2, .ref h2)] := hl
  have t_m1 : (-1 : Int32).toInt = -1 := by decide
  have t_0 : (0 : Int32).toInt = 0 := by decide
  have t_60 : (60 : Int32).toInt = 60 := by decide
  refine lv_aload_n hx hb dX2_farOf_0 rfl (lv_at hl 1 rfl) ?_
  refine r_getN (ci := 5) (k := 1) (v := .int (mI S 501 h1)) C hM kh1 f_X2_48 rfl dX2_farOf_1 ?_
  refine lv_topi (fun x1 ex1 => ?_)
  have fx1 := NI.f501 hI.2 kh1
  rw [← ex1] at fx1
  refine lv_bipush (v := 60) hx hb dX2_farOf_4 (by decide) ?_
  refine lv_imul hx hb dX2_farOf_6 ?_
  refine lv_topi (fun x2 ex2 => ?_)
  try (have tx2 := mulC (a := x1) (k := 60) (n := 60) (by decide) (by omega) (by omega); rw [← ex2] at tx2)
  refine lv_aload_n hx hb dX2_farOf_7 rfl (lv_at hl 2 rfl) ?_
  refine r_getN (ci := 5) (k := 1) (v := .int (mI S 501 h2)) C hM kh2 f_X2_48 rfl dX2_farOf_8 ?_
  refine lv_topi (fun x3 ex3 => ?_)
  have fx3 := NI.f501 hI.2 kh2
  rw [← ex3] at fx3
  refine lv_iadd hx hb dX2_farOf_11 ?_
  refine lv_topi (fun x4 ex4 => ?_)
  try (have tx4 := addI (a := x2) (b := x3) (by omega) (by omega); rw [← ex4] at tx4)
  refine lv_istore_n (lv' := [(3, .int x4), (0, .ref h0), (1, .ref h1), (2, .ref h2)]) hx hb dX2_farOf_12 rfl hl (by decide) rfl (fun ls hl => ?_)
  refine lv_iload_n hx hb dX2_farOf_13 rfl (lv_at hl 0 rfl) ?_
  refine lv_if_lt (tgt := 26) hx hb dX2_farOf_14 (by decide) (fun c5 => ?_) (fun c5 => ?_)
  · have tc5 := ltT c5
    refine lv_iconst (v := -1) hx hb dX2_farOf_26 (by decide) ?_
    refine lv_goto (tgt := 36) hx hb dX2_farOf_27 (by decide) ?_
    exact r_retI C hr hlk hM (⟨rfl, rfl, rfl, trivial⟩) dX2_farOf_36
  · have tc5 := ltF c5
    refine lv_iload_n hx hb dX2_farOf_17 rfl (lv_at hl 0 rfl) ?_
    refine lv_aload_n hx hb dX2_farOf_18 rfl (lv_at hl 1 rfl) ?_
    obtain ⟨q6, eq6, kq6, nq6⟩ := TI.nn hI.1 (ci := 2) (k := 1) kh0
    refine r_get (ci := 2) (k := 1) (v := .ref q6) C hM kh0 f_X2_9 (congrArg va_rf eq6) dX2_farOf_19 ?_
    refine r_alen (t := 0) C hM kq6 (by decide) rfl dX2_farOf_22 ?_
    refine lv_topi (fun x7 ex7 => ?_)
    have tx7 : x7.toInt = 3600 := by rw [ex7, nq6 (by decide)]; rfl
    refine lv_icmp_lt (tgt := 30) hx hb dX2_farOf_23 (by decide) (fun c8 => ?_) (fun c8 => ?_)
    · have tc8 := ltT c8
      refine lv_aload_n hx hb dX2_farOf_30 rfl (lv_at hl 1 rfl) ?_
      refine r_get (ci := 2) (k := 1) (v := .ref q6) C hM kh0 f_X2_9 (congrArg va_rf (eq6)) dX2_farOf_31 ?_
      refine lv_iload_n hx hb dX2_farOf_34 rfl (lv_at hl 0 rfl) ?_
      refine r_iald C hM kq6 (inI (by omega) (by rw [nq6 (by decide)]; show _ < (3600 : Int); omega)) dX2_farOf_35 ?_
      refine lv_topi (fun x9 ex9 => ?_)
      exact r_retI C hr hlk hM (⟨rfl, rfl, rfl, trivial⟩) dX2_farOf_36
    · have tc8 := ltF c8
      refine lv_iconst (v := -1) hx hb dX2_farOf_26 (by decide) ?_
      refine lv_goto (tgt := 36) hx hb dX2_farOf_27 (by decide) ?_
      exact r_retI C hr hlk hM (⟨rfl, rfl, rfl, trivial⟩) dX2_farOf_36
set_option maxHeartbeats 4000000 in
set_option maxRecDepth 100000 in
theorem c_X2_costOf (l : Launch) (D : gD) (H0 : Heap) (S : Mem) (kc ns : Nat) (h0 h1 h2 : Nat) {u : Nat} {tl : Int} {rho : Nat} (hI : CI x0 u tl rho S) (kh0 : mK S h0 = 3) (kh1 : mK S h1 = 6) (kh2 : mK S h2 = 6) : Met l yX2_costOf (wsU yX2_costOf cX2_costOf 3 (some .int)) ({ frames := 3, cells := 0, slots := 0, locals := 63 } : Room) (mP D H0 S kc ns [.ref h0, .ref h1, .ref h2]) (mQ D H0 gI (fun r S1 k1 n1 => S = S1 ∧ kc = k1 ∧ ns = n1 ∧ True)) 0 0 (mF H0) := by
  refine r_met (own := RX2) (by decide +kernel) rfl (Nat.le_of_ble_eq_true rfl) ?_
  intro p e s m args below meth c C hr hlk hnm H ls hl hM
  obtain ⟨hx, hb, hml, hown, hts, -, -⟩ := id C
  have hl : lv_has ls 3 [(0, .ref h0), (1, .ref h1), (2, .ref h2)] := hl
  have t_0 : (0 : Int32).toInt = 0 := by decide
  have t_3 : (3 : Int32).toInt = 3 := by decide
  refine lv_iconst (v := 3) hx hb dX2_costOf_0 (by decide) ?_
  refine lv_aload_n hx hb dX2_costOf_1 rfl (lv_at hl 0 rfl) ?_
  refine lv_aload_n hx hb dX2_costOf_2 rfl (lv_at hl 1 rfl) ?_
  refine lv_aload_n hx hb dX2_costOf_3 rfl (lv_at hl 2 rfl) ?_
  refine r_V (As := [.ref h1, .ref h2]) (rest := [.int 3]) (ci := 2) C hM (c_X2_farOf l D H0 S kc ns h0 h1 h2 hI kh0 kh1 kh2) i_X2_farOf m_X2_29 kh0 rfl rfl rfl hl.1 rfl (Nat.le_of_ble_eq_true rfl) ⟨by decide, by decide⟩ ⟨by decide, by decide⟩ dX2_costOf_4 (fun x4 S1 k2 n3 H locs p5 hM => ?_)
  obtain ⟨rfl, rfl, rfl, hx4⟩ := p5
  refine W.eq (g2 := F0 m 7 ls [.int x4, .int 3]) rfl ?_
  refine lv_imul hx hb dX2_costOf_7 ?_
  refine lv_topi (fun x6 ex6 => ?_)
  refine lv_aload_n hx hb dX2_costOf_8 rfl (lv_at hl 1 rfl) ?_
  refine r_getN (ci := 5) (k := 3) C hM kh1 f_X2_33 rfl dX2_costOf_9 ?_
  obtain ⟨r7, er7, kr7⟩ : ∃ r : Option Nat, mR S 503 h1 = r ∧ ∀ q, r = some q → mK S q = 6 := ⟨_, rfl, TI.opt hI.1 (ci := 5) (k := 3) kh1⟩
  refine W.eq (g2 := F0 m 12 ls [va_rf r7, .int x6]) (by rw [← er7]; rfl) ?_
  refine lv_aload_n hx hb dX2_costOf_12 rfl (lv_at hl 2 rfl) ?_
  refine r_getN (ci := 5) (k := 3) C hM kh2 f_X2_33 rfl dX2_costOf_13 ?_
  obtain ⟨r8, er8, kr8⟩ : ∃ r : Option Nat, mR S 503 h2 = r ∧ ∀ q, r = some q → mK S q = 6 := ⟨_, rfl, TI.opt hI.1 (ci := 5) (k := 3) kh2⟩
  refine W.eq (g2 := F0 m 16 ls [va_rf r8, va_rf r7, .int x6]) (by rw [← er8]; rfl) ?_
  refine r_S (As := [va_rf r7, va_rf r8]) (rest := [.int x6]) C hM (c_X2_changeAlone l D H0 S kc ns r7 r8 hI (kr7) (kr8)) i_X2_changeAlone m_X2_39 rfl hl.1 rfl (Nat.le_of_ble_eq_true rfl) ⟨by decide, by decide⟩ ⟨by decide, by decide⟩ dX2_costOf_16 (fun x12 S9 k10 n11 H locs p13 hM => ?_)
  obtain ⟨rfl, rfl, rfl, hx12⟩ := p13
  refine W.eq (g2 := F0 m 19 ls [.int x12, .int x6]) rfl ?_
  refine lv_iadd hx hb dX2_costOf_19 ?_
  refine lv_topi (fun x14 ex14 => ?_)
  refine lv_aload_n hx hb dX2_costOf_20 rfl (lv_at hl 1 rfl) ?_
  refine r_getN (ci := 5) (k := 4) C hM kh1 f_X2_42 rfl dX2_costOf_21 ?_
  obtain ⟨r15, er15, kr15⟩ : ∃ r : Option Nat, mR S 504 h1 = r ∧ ∀ q, r = some q → mK S q = 6 := ⟨_, rfl, TI.opt hI.1 (ci := 5) (k := 4) kh1⟩
  refine W.eq (g2 := F0 m 24 ls [va_rf r15, .int x14]) (by rw [← er15]; rfl) ?_
  refine lv_aload_n hx hb dX2_costOf_24 rfl (lv_at hl 2 rfl) ?_
  refine r_getN (ci := 5) (k := 4) C hM kh2 f_X2_42 rfl dX2_costOf_25 ?_
  obtain ⟨r16, er16, kr16⟩ : ∃ r : Option Nat, mR S 504 h2 = r ∧ ∀ q, r = some q → mK S q = 6 := ⟨_, rfl, TI.opt hI.1 (ci := 5) (k := 4) kh2⟩
  refine W.eq (g2 := F0 m 28 ls [va_rf r16, va_rf r15, .int x14]) (by rw [← er16]; rfl) ?_
  refine r_S (As := [va_rf r15, va_rf r16]) (rest := [.int x14]) C hM (c_X2_changeAlone l D H0 S kc ns r15 r16 hI (kr15) (kr16)) i_X2_changeAlone m_X2_39 rfl hl.1 rfl (Nat.le_of_ble_eq_true rfl) ⟨by decide, by decide⟩ ⟨by decide, by decide⟩ dX2_costOf_28 (fun x20 S17 k18 n19 H locs p21 hM => ?_)
  obtain ⟨rfl, rfl, rfl, hx20⟩ := p21
  refine W.eq (g2 := F0 m 31 ls [.int x20, .int x14]) rfl ?_
  refine lv_iadd hx hb dX2_costOf_31 ?_
  refine lv_topi (fun x22 ex22 => ?_)
  refine lv_aload_n hx hb dX2_costOf_32 rfl (lv_at hl 1 rfl) ?_
  refine r_getN (ci := 5) (k := 8) C hM kh1 f_X2_45 rfl dX2_costOf_33 ?_
  obtain ⟨r23, er23, kr23⟩ : ∃ r : Option Nat, mR S 508 h1 = r ∧ ∀ q, r = some q → mK S q = 6 := ⟨_, rfl, TI.opt hI.1 (ci := 5) (k := 8) kh1⟩
  refine W.eq (g2 := F0 m 36 ls [va_rf r23, .int x22]) (by rw [← er23]; rfl) ?_
  refine lv_aload_n hx hb dX2_costOf_36 rfl (lv_at hl 2 rfl) ?_
  refine r_getN (ci := 5) (k := 8) C hM kh2 f_X2_45 rfl dX2_costOf_37 ?_
  obtain ⟨r24, er24, kr24⟩ : ∃ r : Option Nat, mR S 508 h2 = r ∧ ∀ q, r = some q → mK S q = 6 := ⟨_, rfl, TI.opt hI.1 (ci := 5) (k := 8) kh2⟩
  refine W.eq (g2 := F0 m 40 ls [va_rf r24, va_rf r23, .int x22]) (by rw [← er24]; rfl) ?_
  refine r_S (As := [va_rf r23, va_rf r24]) (rest := [.int x22]) C hM (c_X2_changeAlone l D H0 S kc ns r23 r24 hI (kr23) (kr24)) i_X2_changeAlone m_X2_39 rfl hl.1 rfl (Nat.le_of_ble_eq_true rfl) ⟨by decide, by decide⟩ ⟨by decide, by decide⟩ dX2_costOf_40 (fun x28 S25 k26 n27 H locs p29 hM => ?_)
  obtain ⟨rfl, rfl, rfl, hx28⟩ := p29
  refine W.eq (g2 := F0 m 43 ls [.int x28, .int x22]) rfl ?_
  refine lv_iadd hx hb dX2_costOf_43 ?_
  refine lv_topi (fun x30 ex30 => ?_)
  exact r_retI C hr hlk hM (⟨rfl, rfl, rfl, trivial⟩) dX2_costOf_44
set_option maxHeartbeats 4000000 in
set_option maxRecDepth 100000 in
theorem c_X1_look (l : Launch) (D : gD) (H0 : Heap) (S : Mem) (kc ns : Nat) (h0 h1 h2 h3 : Nat) (i0 : Int32) {u : Nat} {tl : Int} {rho : Nat} (hI : CI x0 u tl rho S) (kh0 : mK S h0 = 2) (kh1 : mK S h1 = 6) (kh2 : mK S h2 = 5) (kh3 : mK S h3 = 3) : Met l yX1_look (wsU yX1_look cX1_look 12 (some .int)) ({ frames := 4, cells := 0, slots := 0, locals := 85 } : Room) (mP D H0 S kc ns [.ref h0, .ref h1, .ref h2, .ref h3, .int i0]) (mQ D H0 gI (fun r S1 k1 n1 => kc = k1 ∧ ns = n1 ∧ mK S1 = mK S ∧ CI x0 u tl rho S1 ∧ True)) 0 0 (mF H0) := by
  refine r_met (own := RX1) (by decide +kernel) rfl (Nat.le_of_ble_eq_true rfl) ?_
  intro p e s m args below meth c C hr hlk hnm H ls hl hM
  obtain ⟨hx, hb, hml, hown, hts, -, -⟩ := id C
  have hl : lv_has ls 12 [(0, .ref h0), (1, .ref h1), (2, .ref h2), (3, .ref h3), (4, .int i0)] := hl
  have hI0 := hI
  have hK9 : mK S = mK S := rfl
  have t_m2 : (-2 : Int32).toInt = -2 := by decide
  have t_m1 : (-1 : Int32).toInt = -1 := by decide
  have t_0 : (0 : Int32).toInt = 0 := by decide
  have t_1 : (1 : Int32).toInt = 1 := by decide
  refine lv_null hx hb dX1_look_0 ?_
  refine lv_astoreN (lv' := [(5, .null), (0, .ref h0), (1, .ref h1), (2, .ref h2), (3, .ref h3), (4, .int i0)]) hx hb dX1_look_1 hl (by decide) rfl (fun ls hl => ?_)
  refine lv_null hx hb dX1_look_3 ?_
  refine lv_astoreN (lv' := [(6, .null), (5, .null), (0, .ref h0), (1, .ref h1), (2, .ref h2), (3, .ref h3), (4, .int i0)]) hx hb dX1_look_4 hl (by decide) rfl (fun ls hl => ?_)
  refine lv_iconst (v := -1) hx hb dX1_look_6 (by decide) ?_
  refine lv_istore (lv' := [(7, .int (-1)), (6, .null), (5, .null), (0, .ref h0), (1, .ref h1), (2, .ref h2), (3, .ref h3), (4, .int i0)]) hx hb dX1_look_7 hl (by decide) rfl (fun ls hl => ?_)
  refine lv_iconst (v := -1) hx hb dX1_look_9 (by decide) ?_
  refine lv_istore (lv' := [(8, .int (-1)), (7, .int (-1)), (6, .null), (5, .null), (0, .ref h0), (1, .ref h1), (2, .ref h2), (3, .ref h3), (4, .int i0)]) hx hb dX1_look_10 hl (by decide) rfl (fun ls hl => ?_)
  refine lv_iconst (v := 0) hx hb dX1_look_12 (by decide) ?_
  refine lv_istore (lv' := [(9, .int 0), (8, .int (-1)), (7, .int (-1)), (6, .null), (5, .null), (0, .ref h0), (1, .ref h1), (2, .ref h2), (3, .ref h3), (4, .int i0)]) hx hb dX1_look_13 hl (by decide) rfl (fun ls hl => ?_)
  have loop15 : ∀ (fu : Nat) (j : Int32) (a8 : Int32) (a7 : Int32) (o2 : Option Nat) (o : Option Nat) (H : Heap) (locs : List Loc) (ls : Array Slot), (0 ≤ j.toInt) → (∀ q, o = some q → mK S q = 6) → (∀ q, o2 = some q → mK S q = 6) → (60 - j.toInt).toNat < fu → lv_has ls 12 [(0, .ref h0), (1, .ref h1), (2, .ref h2), (3, .ref h3), (4, .int i0), (5, va_rf o), (6, va_rf o2), (7, .int a7), (8, .int a8), (9, .int j)] → mH D H0 S kc ns H locs → W p l e ({ frames := 4, cells := 0, slots := 0, locals := 85 } : Room) s m args below meth c H locs 0 0 (MQ below (mQ D H0 gI (fun r S1 k1 n1 => kc = k1 ∧ ns = n1 ∧ mK S1 = mK S ∧ CI x0 u tl rho S1 ∧ True)) args s 0 0 (mF H0)) (F0 m 15 ls []) := by
    intro fu
    induction fu with
    | zero => intro j a8 a7 o2 o H locs ls h15_0 h15_1 h15_2 hfu; exact absurd hfu (by omega)
    | succ fu ih15 =>
      intro j a8 a7 o2 o H locs ls h15_0 h15_1 h15_2 hfu hl hM
      have ko := h15_1
      have ko2 := h15_2
      refine lv_iload hx hb dX1_look_15 (lv_at hl 9 rfl) ?_
      refine lv_aload_n hx hb dX1_look_17 rfl (lv_at hl 2 rfl) ?_
      refine r_getN (ci := 4) (k := 1) (v := .int (mI S 401 h2)) C hM kh2 f_X1_25 rfl dX1_look_18 ?_
      refine lv_topi (fun x1 ex1 => ?_)
      have fx1 := NI.f401 hI.2 kh2
      rw [← ex1] at fx1
      refine lv_icmp_ge (tgt := 119) hx hb dX1_look_21 (by decide) (fun c2 => ?_) (fun c2 => ?_)
      · have tc2 := leT c2
        refine lv_aloadQ hx hb dX1_look_119 (lv_at hl 5 rfl) ?_
        cases o with
        | none =>
          refine lv_ifnonnullN hx hb dX1_look_121 ?_
          refine lv_bipush (v := -2) hx hb dX1_look_124 (by decide) ?_
          exact r_retI C hr hlk hM (⟨rfl, rfl, hK9, hI, trivial⟩) dX1_look_126
        | some q3 =>
          have kq3 : mK S q3 = 6 := ko q3 rfl
          refine lv_ifnonnull (tgt := 127) hx hb dX1_look_121 (by decide) ?_
          refine lv_aload_n hx hb dX1_look_127 rfl (lv_at hl 0 rfl) ?_
          refine lv_aload hx hb dX1_look_128 (lv_at hl 5 rfl) ?_
          refine r_put C hM kh0 f_X1_9 (fun r h => by cases h; rfl) rfl rfl (mPut.Rf (ci := 1) (k := 0) (x := (some q3)) rfl) dX1_look_130 (fun H locs hM => ?_)
          have hM : mH D H0 (pR S 100 h0 (some q3)) kc ns H locs := hM
          have hI : CI x0 u tl rho (pR S 100 h0 (some q3)) := CI.putR (ci := 1) (k := 0) hI kh0 (fun z h => by cases h; exact ⟨kq3, fun h => absurd rfl h⟩) (Or.inl rfl) (by decide) (by decide) (by decide)
          refine lv_aload_n hx hb dX1_look_133 rfl (lv_at hl 0 rfl) ?_
          refine lv_aloadQ hx hb dX1_look_134 (lv_at hl 6 rfl) ?_
          refine r_put C hM kh0 f_X1_15 (fun r h => by cases h; rfl) (by cases o2 <;> rfl) (by cases o2 <;> rfl) (mPut.Rf (ci := 1) (k := 1) (x := o2) rfl) dX1_look_136 (fun H locs hM => ?_)
          have hM : mH D H0 (pR (pR S 100 h0 (some q3)) 101 h0 o2) kc ns H locs := hM
          have hI : CI x0 u tl rho (pR (pR S 100 h0 (some q3)) 101 h0 o2) := CI.putR (ci := 1) (k := 1) hI kh0 (fun z h => ⟨ko2 z h, fun h => absurd rfl h⟩) (Or.inl rfl) (by decide) (by decide) (by decide)
          refine lv_aload_n hx hb dX1_look_139 rfl (lv_at hl 0 rfl) ?_
          refine lv_iload hx hb dX1_look_140 (lv_at hl 7 rfl) ?_
          refine r_put C hM kh0 f_X1_18 (fun r h => by cases h; rfl) rfl rfl (mPut.I (ci := 1) (k := 2) rfl) dX1_look_142 (fun H locs hM => ?_)
          have hM : mH D H0 (pI (pR (pR S 100 h0 (some q3)) 101 h0 o2) 102 h0 a7) kc ns H locs := hM
          have hI := hI.fe (fEq.I (S := (pR (pR S 100 h0 (some q3)) 101 h0 o2)) (f := 102) (a := h0) (v := a7) (by decide))
          refine lv_aload_n hx hb dX1_look_145 rfl (lv_at hl 0 rfl) ?_
          refine lv_iload hx hb dX1_look_146 (lv_at hl 8 rfl) ?_
          refine r_put C hM kh0 f_X1_22 (fun r h => by cases h; rfl) rfl rfl (mPut.I (ci := 1) (k := 3) rfl) dX1_look_148 (fun H locs hM => ?_)
          have hM : mH D H0 (pI (pI (pR (pR S 100 h0 (some q3)) 101 h0 o2) 102 h0 a7) 103 h0 a8) kc ns H locs := hM
          have hI := hI.fe (fEq.I (S := (pI (pR (pR S 100 h0 (some q3)) 101 h0 o2) 102 h0 a7)) (f := 103) (a := h0) (v := a8) (by decide))
          refine lv_aloadQ hx hb dX1_look_151 (lv_at hl 6 rfl) ?_
          cases o2 with
          | none =>
            refine lv_ifnullN (tgt := 166) hx hb dX1_look_153 (by decide) ?_
            refine lv_iconst (v := 1) hx hb dX1_look_166 (by decide) ?_
            refine lv_goto (tgt := 171) hx hb dX1_look_167 (by decide) ?_
            exact r_retI C hr hlk hM (⟨rfl, rfl, hK9, hI, trivial⟩) dX1_look_171
          | some q4 =>
            have kq4 : mK _ q4 = 6 := ko2 q4 rfl
            refine lv_ifnull hx hb dX1_look_153 ?_
            refine lv_iload hx hb dX1_look_156 (lv_at hl 8 rfl) ?_
            refine lv_iload hx hb dX1_look_158 (lv_at hl 7 rfl) ?_
            refine lv_isub hx hb dX1_look_160 ?_
            refine lv_topi (fun x5 ex5 => ?_)
            try (have tx5 := subI (a := a8) (b := a7) (by omega) (by omega); rw [← ex5] at tx5)
            refine lv_iload hx hb dX1_look_161 (lv_at hl 4 rfl) ?_
            refine lv_icmp_lt (tgt := 170) hx hb dX1_look_163 (by decide) (fun c6 => ?_) (fun c6 => ?_)
            · have tc6 := ltT c6
              refine lv_iconst (v := 0) hx hb dX1_look_170 (by decide) ?_
              exact r_retI C hr hlk hM (⟨rfl, rfl, hK9, hI, trivial⟩) dX1_look_171
            · have tc6 := ltF c6
              refine lv_iconst (v := 1) hx hb dX1_look_166 (by decide) ?_
              refine lv_goto (tgt := 171) hx hb dX1_look_167 (by decide) ?_
              exact r_retI C hr hlk hM (⟨rfl, rfl, hK9, hI, trivial⟩) dX1_look_171
      · have tc2 := leF c2
        refine lv_aload_n hx hb dX1_look_24 rfl (lv_at hl 2 rfl) ?_
        refine lv_iload hx hb dX1_look_25 (lv_at hl 9 rfl) ?_
        refine r_VN (As := [.int j]) (rest := []) (ci := 4) C hM (c_X4_at l D H0 S kc ns h2 j hI id kh2) i_X4_at m_X1_30 kh2 rfl rfl rfl hl.1 rfl (Nat.le_of_ble_eq_true rfl) ⟨by decide, by decide⟩ ⟨by decide, by decide⟩ dX1_look_27 (fun r10 S7 k8 n9 H locs p11 hM => ?_)
        obtain ⟨rfl, rfl, rfl, kr10⟩ := p11
        refine W.eq (g2 := F0 m 30 ls [va_rf r10]) rfl ?_
        refine lv_astoreQ (lv' := [(10, va_rf r10), (0, .ref h0), (1, .ref h1), (2, .ref h2), (3, .ref h3), (4, .int i0), (5, va_rf o), (6, va_rf o2), (7, .int a7), (8, .int a8), (9, .int j)]) hx hb dX1_look_30 hl (by decide) rfl (fun ls hl => ?_)
        refine lv_aloadQ hx hb dX1_look_32 (lv_at hl 0 rfl) ?_
        cases r10 with
        | none =>
          refine lv_ifnullN (tgt := 113) hx hb dX1_look_34 (by decide) ?_
          obtain ⟨x13, ex13⟩ : ∃ y : Int32, y = j + 1 := ⟨_, rfl⟩
          try (have tx13 := addI (a := j) (b := 1) (by omega) (by omega); rw [← ex13] at tx13)
          refine lv_iinc (v := x13) (lv' := [(9, .int x13), (10, .null), (0, .ref h0), (1, .ref h1), (2, .ref h2), (3, .ref h3), (4, .int i0), (5, va_rf o), (6, va_rf o2), (7, .int a7), (8, .int a8)]) hx hb dX1_look_113 hl (k := 10) rfl (by rw [ex13]; rfl) (by decide) rfl (fun ls hl => ?_)
          refine lv_goto (tgt := 15) hx hb dX1_look_116 (by decide) ?_
          exact ih15 x13 a8 a7 o2 o _ _ _ (by omega) (ko) (ko2) (by omega) (lv_sub hl [2, 3, 4, 5, 6, 7, 8, 9, 10, 0] rfl) hM
        | some q12 =>
          have kq12 : mK S q12 = 6 := kr10 q12 rfl
          refine lv_ifnull hx hb dX1_look_34 ?_
          refine lv_aload hx hb dX1_look_37 (lv_at hl 0 rfl) ?_
          refine r_getN (ci := 5) (k := 2) (v := .long (mL S 502 q12)) C hM kq12 f_X1_34 rfl dX1_look_39 ?_
          refine lv_topl (fun l14 el14 => ?_)
          refine lv_aload_n hx hb dX1_look_42 rfl (lv_at hl 2 rfl) ?_
          refine r_getN (ci := 5) (k := 2) (v := .long (mL S 502 h1)) C hM kh1 f_X1_34 rfl dX1_look_43 ?_
          refine lv_topl (fun l15 el15 => ?_)
          refine W.lcmp hx hb dX1_look_46 ?_
          refine lv_topi (fun x16 ex16 => ?_)
          refine lv_if_eq (tgt := 53) hx hb dX1_look_47 (by decide) (fun c17 => ?_) (fun c17 => ?_)
          · have tc17 := eqT c17
            refine lv_aload_n hx hb dX1_look_53 rfl (lv_at hl 4 rfl) ?_
            refine lv_aload_n hx hb dX1_look_54 rfl (lv_at hl 2 rfl) ?_
            refine lv_aload hx hb dX1_look_55 (lv_at hl 0 rfl) ?_
            refine r_VN (As := [.ref h1, .ref q12]) (rest := []) (ci := 2) C hM (c_X2_costOf l D H0 S kc ns h3 h1 q12 hI kh3 kh1 kq12) i_X2_costOf m_X1_40 kh3 rfl rfl rfl hl.1 rfl (Nat.le_of_ble_eq_true rfl) ⟨by decide, by decide⟩ ⟨by decide, by decide⟩ dX1_look_57 (fun x21 S18 k19 n20 H locs p22 hM => ?_)
            obtain ⟨rfl, rfl, rfl, hx21⟩ := p22
            refine W.eq (g2 := F0 m 60 ls [.int x21]) rfl ?_
            refine lv_istore (lv' := [(11, .int x21), (10, .ref q12), (0, .ref h0), (1, .ref h1), (2, .ref h2), (3, .ref h3), (4, .int i0), (5, va_rf o), (6, va_rf o2), (7, .int a7), (8, .int a8), (9, .int j)]) hx hb dX1_look_60 hl (by decide) rfl (fun ls hl => ?_)
            refine lv_aloadQ hx hb dX1_look_62 (lv_at hl 7 rfl) ?_
            cases o with
            | none =>
              refine lv_ifnullN (tgt := 74) hx hb dX1_look_64 (by decide) ?_
              refine lv_aloadN hx hb dX1_look_74 (lv_at hl 7 rfl) ?_
              refine lv_astoreN (lv' := [(6, .null), (11, .int x21), (10, .ref q12), (0, .ref h0), (1, .ref h1), (2, .ref h2), (3, .ref h3), (4, .int i0), (5, .null), (7, .int a7), (8, .int a8), (9, .int j)]) hx hb dX1_look_76 hl (by decide) rfl (fun ls hl => ?_)
              refine lv_iload hx hb dX1_look_78 (lv_at hl 9 rfl) ?_
              refine lv_istore (lv' := [(8, .int a7), (6, .null), (11, .int x21), (10, .ref q12), (0, .ref h0), (1, .ref h1), (2, .ref h2), (3, .ref h3), (4, .int i0), (5, .null), (7, .int a7), (9, .int j)]) hx hb dX1_look_80 hl (by decide) rfl (fun ls hl => ?_)
              refine lv_aload hx hb dX1_look_82 (lv_at hl 3 rfl) ?_
              refine lv_astore (lv' := [(5, .ref q12), (8, .int a7), (6, .null), (11, .int x21), (10, .ref q12), (0, .ref h0), (1, .ref h1), (2, .ref h2), (3, .ref h3), (4, .int i0), (7, .int a7), (9, .int j)]) hx hb dX1_look_84 hl (by decide) rfl (fun ls hl => ?_)
              refine lv_iload hx hb dX1_look_86 (lv_at hl 3 rfl) ?_
              refine lv_istore (lv' := [(7, .int x21), (5, .ref q12), (8, .int a7), (6, .null), (11, .int x21), (10, .ref q12), (0, .ref h0), (1, .ref h1), (2, .ref h2), (3, .ref h3), (4, .int i0), (9, .int j)]) hx hb dX1_look_88 hl (by decide) rfl (fun ls hl => ?_)
              refine lv_goto (tgt := 113) hx hb dX1_look_90 (by decide) ?_
              obtain ⟨x24, ex24⟩ : ∃ y : Int32, y = j + 1 := ⟨_, rfl⟩
              try (have tx24 := addI (a := j) (b := 1) (by omega) (by omega); rw [← ex24] at tx24)
              refine lv_iinc (v := x24) (lv' := [(9, .int x24), (7, .int x21), (5, .ref q12), (8, .int a7), (6, .null), (11, .int x21), (10, .ref q12), (0, .ref h0), (1, .ref h1), (2, .ref h2), (3, .ref h3), (4, .int i0)]) hx hb dX1_look_113 hl (k := 11) rfl (by rw [ex24]; rfl) (by decide) rfl (fun ls hl => ?_)
              refine lv_goto (tgt := 15) hx hb dX1_look_116 (by decide) ?_
              exact ih15 x24 a7 x21 none (some q12) _ _ _ (by omega) (fun z h => by cases h; exact kq12) (fun z h => by cases h) (by omega) (lv_sub hl [7, 8, 9, 10, 11, 2, 4, 1, 3, 0] rfl) hM
            | some q23 =>
              have kq23 : mK S q23 = 6 := ko q23 rfl
              refine lv_ifnull hx hb dX1_look_64 ?_
              refine lv_iload hx hb dX1_look_67 (lv_at hl 0 rfl) ?_
              refine lv_iload hx hb dX1_look_69 (lv_at hl 9 rfl) ?_
              refine lv_icmp_ge (tgt := 93) hx hb dX1_look_71 (by decide) (fun c25 => ?_) (fun c25 => ?_)
              · have tc25 := leT c25
                refine lv_aloadQ hx hb dX1_look_93 (lv_at hl 8 rfl) ?_
                cases o2 with
                | none =>
                  refine lv_ifnullN (tgt := 105) hx hb dX1_look_95 (by decide) ?_
                  refine lv_aload hx hb dX1_look_105 (lv_at hl 1 rfl) ?_
                  refine lv_astore (lv' := [(6, .ref q12), (11, .int x21), (10, .ref q12), (0, .ref h0), (1, .ref h1), (2, .ref h2), (3, .ref h3), (4, .int i0), (5, .ref q23), (7, .int a7), (8, .int a8), (9, .int j)]) hx hb dX1_look_107 hl (by decide) rfl (fun ls hl => ?_)
                  refine lv_iload hx hb dX1_look_109 (lv_at hl 1 rfl) ?_
                  refine lv_istore (lv' := [(8, .int x21), (6, .ref q12), (11, .int x21), (10, .ref q12), (0, .ref h0), (1, .ref h1), (2, .ref h2), (3, .ref h3), (4, .int i0), (5, .ref q23), (7, .int a7), (9, .int j)]) hx hb dX1_look_111 hl (by decide) rfl (fun ls hl => ?_)
                  obtain ⟨x27, ex27⟩ : ∃ y : Int32, y = j + 1 := ⟨_, rfl⟩
                  try (have tx27 := addI (a := j) (b := 1) (by omega) (by omega); rw [← ex27] at tx27)
                  refine lv_iinc (v := x27) (lv' := [(9, .int x27), (8, .int x21), (6, .ref q12), (11, .int x21), (10, .ref q12), (0, .ref h0), (1, .ref h1), (2, .ref h2), (3, .ref h3), (4, .int i0), (5, .ref q23), (7, .int a7)]) hx hb dX1_look_113 hl (k := 11) rfl (by rw [ex27]; rfl) (by decide) rfl (fun ls hl => ?_)
                  refine lv_goto (tgt := 15) hx hb dX1_look_116 (by decide) ?_
                  exact ih15 x27 x21 a7 (some q12) (some q23) _ _ _ (by omega) (fun z h => by cases h; exact kq23) (fun z h => by cases h; exact kq12) (by omega) (lv_sub hl [5, 6, 7, 8, 9, 10, 2, 11, 1, 0] rfl) hM
                | some q26 =>
                  have kq26 : mK S q26 = 6 := ko2 q26 rfl
                  refine lv_ifnull hx hb dX1_look_95 ?_
                  refine lv_iload hx hb dX1_look_98 (lv_at hl 0 rfl) ?_
                  refine lv_iload hx hb dX1_look_100 (lv_at hl 10 rfl) ?_
                  refine lv_icmp_ge (tgt := 113) hx hb dX1_look_102 (by decide) (fun c28 => ?_) (fun c28 => ?_)
                  · have tc28 := leT c28
                    obtain ⟨x29, ex29⟩ : ∃ y : Int32, y = j + 1 := ⟨_, rfl⟩
                    try (have tx29 := addI (a := j) (b := 1) (by omega) (by omega); rw [← ex29] at tx29)
                    refine lv_iinc (v := x29) (lv' := [(9, .int x29), (11, .int x21), (10, .ref q12), (0, .ref h0), (1, .ref h1), (2, .ref h2), (3, .ref h3), (4, .int i0), (5, .ref q23), (6, .ref q26), (7, .int a7), (8, .int a8)]) hx hb dX1_look_113 hl (k := 11) rfl (by rw [ex29]; rfl) (by decide) rfl (fun ls hl => ?_)
                    refine lv_goto (tgt := 15) hx hb dX1_look_116 (by decide) ?_
                    exact ih15 x29 a8 a7 (some q26) (some q23) _ _ _ (by omega) (fun z h => by cases h; exact kq23) (fun z h => by cases h; exact kq26) (by omega) (lv_sub hl [3, 4, 5, 6, 7, 8, 9, 10, 11, 0] rfl) hM
                  · have tc28 := leF c28
                    refine lv_aload hx hb dX1_look_105 (lv_at hl 1 rfl) ?_
                    refine lv_astore (lv' := [(6, .ref q12), (11, .int x21), (10, .ref q12), (0, .ref h0), (1, .ref h1), (2, .ref h2), (3, .ref h3), (4, .int i0), (5, .ref q23), (7, .int a7), (8, .int a8), (9, .int j)]) hx hb dX1_look_107 hl (by decide) rfl (fun ls hl => ?_)
                    refine lv_iload hx hb dX1_look_109 (lv_at hl 1 rfl) ?_
                    refine lv_istore (lv' := [(8, .int x21), (6, .ref q12), (11, .int x21), (10, .ref q12), (0, .ref h0), (1, .ref h1), (2, .ref h2), (3, .ref h3), (4, .int i0), (5, .ref q23), (7, .int a7), (9, .int j)]) hx hb dX1_look_111 hl (by decide) rfl (fun ls hl => ?_)
                    obtain ⟨x30, ex30⟩ : ∃ y : Int32, y = j + 1 := ⟨_, rfl⟩
                    try (have tx30 := addI (a := j) (b := 1) (by omega) (by omega); rw [← ex30] at tx30)
                    refine lv_iinc (v := x30) (lv' := [(9, .int x30), (8, .int x21), (6, .ref q12), (11, .int x21), (10, .ref q12), (0, .ref h0), (1, .ref h1), (2, .ref h2), (3, .ref h3), (4, .int i0), (5, .ref q23), (7, .int a7)]) hx hb dX1_look_113 hl (k := 11) rfl (by rw [ex30]; rfl) (by decide) rfl (fun ls hl => ?_)
                    refine lv_goto (tgt := 15) hx hb dX1_look_116 (by decide) ?_
                    exact ih15 x30 x21 a7 (some q12) (some q23) _ _ _ (by omega) (fun z h => by cases h; exact kq23) (fun z h => by cases h; exact kq12) (by omega) (lv_sub hl [5, 6, 7, 8, 9, 10, 2, 11, 1, 0] rfl) hM
              · have tc25 := leF c25
                refine lv_aload hx hb dX1_look_74 (lv_at hl 7 rfl) ?_
                refine lv_astore (lv' := [(6, .ref q23), (11, .int x21), (10, .ref q12), (0, .ref h0), (1, .ref h1), (2, .ref h2), (3, .ref h3), (4, .int i0), (5, .ref q23), (7, .int a7), (8, .int a8), (9, .int j)]) hx hb dX1_look_76 hl (by decide) rfl (fun ls hl => ?_)
                refine lv_iload hx hb dX1_look_78 (lv_at hl 9 rfl) ?_
                refine lv_istore (lv' := [(8, .int a7), (6, .ref q23), (11, .int x21), (10, .ref q12), (0, .ref h0), (1, .ref h1), (2, .ref h2), (3, .ref h3), (4, .int i0), (5, .ref q23), (7, .int a7), (9, .int j)]) hx hb dX1_look_80 hl (by decide) rfl (fun ls hl => ?_)
                refine lv_aload hx hb dX1_look_82 (lv_at hl 3 rfl) ?_
                refine lv_astore (lv' := [(5, .ref q12), (8, .int a7), (6, .ref q23), (11, .int x21), (10, .ref q12), (0, .ref h0), (1, .ref h1), (2, .ref h2), (3, .ref h3), (4, .int i0), (7, .int a7), (9, .int j)]) hx hb dX1_look_84 hl (by decide) rfl (fun ls hl => ?_)
                refine lv_iload hx hb dX1_look_86 (lv_at hl 3 rfl) ?_
                refine lv_istore (lv' := [(7, .int x21), (5, .ref q12), (8, .int a7), (6, .ref q23), (11, .int x21), (10, .ref q12), (0, .ref h0), (1, .ref h1), (2, .ref h2), (3, .ref h3), (4, .int i0), (9, .int j)]) hx hb dX1_look_88 hl (by decide) rfl (fun ls hl => ?_)
                refine lv_goto (tgt := 113) hx hb dX1_look_90 (by decide) ?_
                obtain ⟨x31, ex31⟩ : ∃ y : Int32, y = j + 1 := ⟨_, rfl⟩
                try (have tx31 := addI (a := j) (b := 1) (by omega) (by omega); rw [← ex31] at tx31)
                refine lv_iinc (v := x31) (lv' := [(9, .int x31), (7, .int x21), (5, .ref q12), (8, .int a7), (6, .ref q23), (11, .int x21), (10, .ref q12), (0, .ref h0), (1, .ref h1), (2, .ref h2), (3, .ref h3), (4, .int i0)]) hx hb dX1_look_113 hl (k := 11) rfl (by rw [ex31]; rfl) (by decide) rfl (fun ls hl => ?_)
                refine lv_goto (tgt := 15) hx hb dX1_look_116 (by decide) ?_
                exact ih15 x31 a7 x21 (some q23) (some q12) _ _ _ (by omega) (fun z h => by cases h; exact kq12) (fun z h => by cases h; exact kq23) (by omega) (lv_sub hl [7, 8, 9, 10, 11, 2, 4, 1, 3, 0] rfl) hM
          · have tc17 := eqF c17
            refine lv_goto (tgt := 113) hx hb dX1_look_50 (by decide) ?_
            obtain ⟨x32, ex32⟩ : ∃ y : Int32, y = j + 1 := ⟨_, rfl⟩
            try (have tx32 := addI (a := j) (b := 1) (by omega) (by omega); rw [← ex32] at tx32)
            refine lv_iinc (v := x32) (lv' := [(9, .int x32), (10, .ref q12), (0, .ref h0), (1, .ref h1), (2, .ref h2), (3, .ref h3), (4, .int i0), (5, va_rf o), (6, va_rf o2), (7, .int a7), (8, .int a8)]) hx hb dX1_look_113 hl (k := 10) rfl (by rw [ex32]; rfl) (by decide) rfl (fun ls hl => ?_)
            refine lv_goto (tgt := 15) hx hb dX1_look_116 (by decide) ?_
            exact ih15 x32 a8 a7 o2 o _ _ _ (by omega) (ko) (ko2) (by omega) (lv_sub hl [2, 3, 4, 5, 6, 7, 8, 9, 10, 0] rfl) hM
  exact loop15 (((60 - (0 : Int32).toInt).toNat) + 1) 0 (-1) (-1) none none _ _ _ (by omega) (fun z h => by cases h) (fun z h => by cases h) (by omega) (lv_sub hl [5, 6, 7, 8, 9, 4, 3, 2, 1, 0] rfl) hM
set_option maxHeartbeats 4000000 in
set_option maxRecDepth 100000 in
theorem c_X3_stepOn (l : Launch) (D : gD) (H0 : Heap) (S : Mem) (kc ns : Nat) (h0 h1 : Nat) (i0 : Int32) {u : Nat} {tl : Int} {rho : Nat} (hI : CI x0 u tl rho S) (kh0 : mK S h0 = 4) (kh1 : mK S h1 = 5) : Met l yX3_stepOn (wsU yX3_stepOn cX3_stepOn 6 (some (.object "ClickBench$Part"))) ({ frames := 1, cells := 0, slots := 0, locals := 26 } : Room) (mP D H0 S kc ns [.ref h0, .ref h1, .int i0]) (mQ D H0 gR (fun r S1 k1 n1 => S = S1 ∧ kc = k1 ∧ ns = n1 ∧ (∀ q, r = some q → mK S q = 6))) 0 0 (mF H0) := by
  refine r_met (own := RX3) (by decide +kernel) rfl (Nat.le_of_ble_eq_true rfl) ?_
  intro p e s m args below meth c C hr hlk hnm H ls hl hM
  obtain ⟨hx, hb, hml, hown, hts, -, -⟩ := id C
  have hl : lv_has ls 6 [(0, .ref h0), (1, .ref h1), (2, .int i0)] := hl
  have t_0 : (0 : Int32).toInt = 0 := by decide
  have t_1 : (1 : Int32).toInt = 1 := by decide
  refine lv_aload_n hx hb dX3_stepOn_0 rfl (lv_at hl 0 rfl) ?_
  refine r_get (ci := 3) (k := 2) (v := .int (mI S 302 h0)) C hM kh0 f_X3_19 rfl dX3_stepOn_1 ?_
  refine lv_topi (fun x1 ex1 => ?_)
  refine lv_iload_n hx hb dX3_stepOn_4 rfl (lv_at hl 2 rfl) ?_
  refine lv_aload_n hx hb dX3_stepOn_5 rfl (lv_at hl 0 rfl) ?_
  refine r_get (ci := 3) (k := 3) (v := .int (mI S 303 h0)) C hM kh0 f_X3_22 rfl dX3_stepOn_6 ?_
  refine lv_topi (fun x2 ex2 => ?_)
  refine lv_imul hx hb dX3_stepOn_9 ?_
  refine lv_topi (fun x3 ex3 => ?_)
  refine lv_iadd hx hb dX3_stepOn_10 ?_
  refine lv_topi (fun x4 ex4 => ?_)
  try (have tx4 := addI (a := x1) (b := x3) (by omega) (by omega); rw [← ex4] at tx4)
  refine lv_istore_n (lv' := [(3, .int x4), (0, .ref h0), (1, .ref h1), (2, .int i0)]) hx hb dX3_stepOn_11 rfl hl (by decide) rfl (fun ls hl => ?_)
  refine lv_iconst (v := 0) hx hb dX3_stepOn_12 (by decide) ?_
  refine lv_istore (lv' := [(4, .int 0), (3, .int x4), (0, .ref h0), (1, .ref h1), (2, .int i0)]) hx hb dX3_stepOn_13 hl (by decide) rfl (fun ls hl => ?_)
  have loop15 : ∀ (fu : Nat) (j : Int32) (H : Heap) (locs : List Loc) (ls : Array Slot), (0 ≤ j.toInt) → (60 - j.toInt).toNat < fu → lv_has ls 6 [(0, .ref h0), (1, .ref h1), (2, .int i0), (3, .int x4), (4, .int j)] → mH D H0 S kc ns H locs → W p l e ({ frames := 1, cells := 0, slots := 0, locals := 26 } : Room) s m args below meth c H locs 0 0 (MQ below (mQ D H0 gR (fun r S1 k1 n1 => S = S1 ∧ kc = k1 ∧ ns = n1 ∧ (∀ q, r = some q → mK S q = 6))) args s 0 0 (mF H0)) (F0 m 15 ls []) := by
    intro fu
    induction fu with
    | zero => intro j H locs ls h15_0 hfu; exact absurd hfu (by omega)
    | succ fu ih15 =>
      intro j H locs ls h15_0 hfu hl hM
      refine lv_iload hx hb dX3_stepOn_15 (lv_at hl 4 rfl) ?_
      refine lv_aload_n hx hb dX3_stepOn_17 rfl (lv_at hl 1 rfl) ?_
      refine r_getN (ci := 4) (k := 1) (v := .int (mI S 401 h1)) C hM kh1 f_X3_53 rfl dX3_stepOn_18 ?_
      refine lv_topi (fun x5 ex5 => ?_)
      have fx5 := NI.f401 hI.2 kh1
      rw [← ex5] at fx5
      refine lv_icmp_ge (tgt := 63) hx hb dX3_stepOn_21 (by decide) (fun c6 => ?_) (fun c6 => ?_)
      · have tc6 := leT c6
        refine lv_null hx hb dX3_stepOn_63 ?_
        exact r_retR (v := none) C hr hlk hM (⟨rfl, rfl, rfl, fun z h => by cases h⟩) dX3_stepOn_64
      · have tc6 := leF c6
        refine lv_aload_n hx hb dX3_stepOn_24 rfl (lv_at hl 1 rfl) ?_
        refine lv_iload hx hb dX3_stepOn_25 (lv_at hl 4 rfl) ?_
        refine r_VN (As := [.int j]) (rest := []) (ci := 4) C hM (c_X4_at l D H0 S kc ns h1 j hI id kh1) i_X4_at m_X3_58 kh1 rfl rfl rfl hl.1 rfl (Nat.le_of_ble_eq_true rfl) ⟨by decide, by decide⟩ ⟨by decide, by decide⟩ dX3_stepOn_27 (fun r10 S7 k8 n9 H locs p11 hM => ?_)
        obtain ⟨rfl, rfl, rfl, kr10⟩ := p11
        refine W.eq (g2 := F0 m 30 ls [va_rf r10]) rfl ?_
        refine lv_astoreQ (lv' := [(5, va_rf r10), (0, .ref h0), (1, .ref h1), (2, .int i0), (3, .int x4), (4, .int j)]) hx hb dX3_stepOn_30 hl (by decide) rfl (fun ls hl => ?_)
        refine lv_aloadQ hx hb dX3_stepOn_32 (lv_at hl 0 rfl) ?_
        cases r10 with
        | none =>
          refine lv_ifnullN (tgt := 57) hx hb dX3_stepOn_34 (by decide) ?_
          obtain ⟨x13, ex13⟩ : ∃ y : Int32, y = j + 1 := ⟨_, rfl⟩
          try (have tx13 := addI (a := j) (b := 1) (by omega) (by omega); rw [← ex13] at tx13)
          refine lv_iinc (v := x13) (lv' := [(4, .int x13), (5, .null), (0, .ref h0), (1, .ref h1), (2, .int i0), (3, .int x4)]) hx hb dX3_stepOn_57 hl (k := 5) rfl (by rw [ex13]; rfl) (by decide) rfl (fun ls hl => ?_)
          refine lv_goto (tgt := 15) hx hb dX3_stepOn_60 (by decide) ?_
          exact ih15 x13 _ _ _ (by omega) (by omega) (lv_sub hl [2, 3, 4, 5, 0] rfl) hM
        | some q12 =>
          have kq12 : mK S q12 = 6 := kr10 q12 rfl
          refine lv_ifnull hx hb dX3_stepOn_34 ?_
          refine lv_aload hx hb dX3_stepOn_37 (lv_at hl 0 rfl) ?_
          refine lv_aload_n hx hb dX3_stepOn_39 rfl (lv_at hl 1 rfl) ?_
          obtain ⟨q14, eq14, kq14, nq14⟩ := TI.nn hI.1 (ci := 3) (k := 0) kh0
          refine r_get (ci := 3) (k := 0) (v := .ref q14) C hM kh0 f_X3_9 (congrArg va_rf eq14) dX3_stepOn_40 ?_
          refine lv_aload_n hx hb dX3_stepOn_43 rfl (lv_at hl 1 rfl) ?_
          refine r_get (ci := 3) (k := 1) (v := .int (mI S 301 h0)) C hM kh0 f_X3_15 rfl dX3_stepOn_44 ?_
          refine lv_topi (fun x15 ex15 => ?_)
          refine lv_iload_n hx hb dX3_stepOn_47 rfl (lv_at hl 4 rfl) ?_
          refine r_VN (As := [.ref q14, .int x15, .int x4]) (rest := []) (ci := 5) C hM (c_X5_hasPathOf l D H0 S kc ns q12 q14 x15 x4 hI kq12 kq14) i_X5_hasPathOf m_X3_62 kq12 rfl rfl rfl hl.1 rfl (Nat.le_of_ble_eq_true rfl) ⟨by decide, by decide⟩ ⟨by decide, by decide⟩ dX3_stepOn_48 (fun x19 S16 k17 n18 H locs p20 hM => ?_)
          obtain ⟨rfl, rfl, rfl, hx19⟩ := p20
          refine W.eq (g2 := F0 m 51 ls [.int x19]) rfl ?_
          refine lv_if_eq (tgt := 57) hx hb dX3_stepOn_51 (by decide) (fun c21 => ?_) (fun c21 => ?_)
          · have tc21 := eqT c21
            obtain ⟨x22, ex22⟩ : ∃ y : Int32, y = j + 1 := ⟨_, rfl⟩
            try (have tx22 := addI (a := j) (b := 1) (by omega) (by omega); rw [← ex22] at tx22)
            refine lv_iinc (v := x22) (lv' := [(4, .int x22), (5, .ref q12), (0, .ref h0), (1, .ref h1), (2, .int i0), (3, .int x4)]) hx hb dX3_stepOn_57 hl (k := 5) rfl (by rw [ex22]; rfl) (by decide) rfl (fun ls hl => ?_)
            refine lv_goto (tgt := 15) hx hb dX3_stepOn_60 (by decide) ?_
            exact ih15 x22 _ _ _ (by omega) (by omega) (lv_sub hl [2, 3, 4, 5, 0] rfl) hM
          · have tc21 := eqF c21
            refine lv_aload hx hb dX3_stepOn_54 (lv_at hl 0 rfl) ?_
            exact r_retR (v := (some q12)) C hr hlk hM (⟨rfl, rfl, rfl, fun z h => by cases h; exact kq12⟩) dX3_stepOn_56
  exact loop15 (((60 - (0 : Int32).toInt).toNat) + 1) 0 _ _ _ (by omega) (by omega) (lv_sub hl [2, 3, 4, 1, 0] rfl) hM
set_option maxHeartbeats 4000000 in
set_option maxRecDepth 100000 in
theorem c_X3_countRows (l : Launch) (D : gD) (H0 : Heap) (S : Mem) (kc ns : Nat) (h0 h1 : Nat) {u : Nat} {tl : Int} {rho : Nat} (hI : CI x0 u tl rho S) (kh0 : mK S h0 = 4) (kh1 : mK S h1 = 5) : Met l yX3_countRows (wsU yX3_countRows cX3_countRows 3 (some .int)) ({ frames := 2, cells := 0, slots := 0, locals := 51 } : Room) (mP D H0 S kc ns [.ref h0, .ref h1]) (mQ D H0 gI (fun r S1 k1 n1 => S = S1 ∧ kc = k1 ∧ ns = n1 ∧ True)) 0 0 (mF H0) := by
  refine r_met (own := RX3) (by decide +kernel) rfl (Nat.le_of_ble_eq_true rfl) ?_
  intro p e s m args below meth c C hr hlk hnm H ls hl hM
  obtain ⟨hx, hb, hml, hown, hts, -, -⟩ := id C
  have hl : lv_has ls 3 [(0, .ref h0), (1, .ref h1)] := hl
  have t_0 : (0 : Int32).toInt = 0 := by decide
  have t_1 : (1 : Int32).toInt = 1 := by decide
  have t_60 : (60 : Int32).toInt = 60 := by decide
  refine lv_iconst (v := 0) hx hb dX3_countRows_0 (by decide) ?_
  refine lv_istore_n (lv' := [(2, .int 0), (0, .ref h0), (1, .ref h1)]) hx hb dX3_countRows_1 rfl hl (by decide) rfl (fun ls hl => ?_)
  have loop2 : ∀ (fu : Nat) (j : Int32) (H : Heap) (locs : List Loc) (ls : Array Slot), (0 ≤ j.toInt) → (60 - j.toInt).toNat < fu → lv_has ls 3 [(0, .ref h0), (1, .ref h1), (2, .int j)] → mH D H0 S kc ns H locs → W p l e ({ frames := 2, cells := 0, slots := 0, locals := 51 } : Room) s m args below meth c H locs 0 0 (MQ below (mQ D H0 gI (fun r S1 k1 n1 => S = S1 ∧ kc = k1 ∧ ns = n1 ∧ True)) args s 0 0 (mF H0)) (F0 m 2 ls []) := by
    intro fu
    induction fu with
    | zero => intro j H locs ls h2_0 hfu; exact absurd hfu (by omega)
    | succ fu ih2 =>
      intro j H locs ls h2_0 hfu hl hM
      refine lv_iload_n hx hb dX3_countRows_2 rfl (lv_at hl 2 rfl) ?_
      refine lv_bipush (v := 60) hx hb dX3_countRows_3 (by decide) ?_
      refine lv_icmp_ge (tgt := 23) hx hb dX3_countRows_5 (by decide) (fun c1 => ?_) (fun c1 => ?_)
      · have tc1 := leT c1
        refine lv_iload_n hx hb dX3_countRows_23 rfl (lv_at hl 2 rfl) ?_
        exact r_retI C hr hlk hM (⟨rfl, rfl, rfl, trivial⟩) dX3_countRows_24
      · have tc1 := leF c1
        refine lv_aload_n hx hb dX3_countRows_8 rfl (lv_at hl 0 rfl) ?_
        refine lv_aload_n hx hb dX3_countRows_9 rfl (lv_at hl 1 rfl) ?_
        refine lv_iload_n hx hb dX3_countRows_10 rfl (lv_at hl 2 rfl) ?_
        refine r_V (As := [.ref h1, .int j]) (rest := []) (ci := 3) C hM (c_X3_stepOn l D H0 S kc ns h0 h1 j hI kh0 kh1) i_X3_stepOn m_X3_66 kh0 rfl rfl rfl hl.1 rfl (Nat.le_of_ble_eq_true rfl) ⟨by decide, by decide⟩ ⟨by decide, by decide⟩ dX3_countRows_11 (fun r5 S2 k3 n4 H locs p6 hM => ?_)
        obtain ⟨rfl, rfl, rfl, kr5⟩ := p6
        refine W.eq (g2 := F0 m 14 ls [va_rf r5]) rfl ?_
        cases r5 with
        | none =>
          refine lv_ifnullN (tgt := 23) hx hb dX3_countRows_14 (by decide) ?_
          refine lv_iload_n hx hb dX3_countRows_23 rfl (lv_at hl 2 rfl) ?_
          exact r_retI C hr hlk hM (⟨rfl, rfl, rfl, trivial⟩) dX3_countRows_24
        | some q7 =>
          have kq7 : mK S q7 = 6 := kr5 q7 rfl
          refine lv_ifnull hx hb dX3_countRows_14 ?_
          obtain ⟨x8, ex8⟩ : ∃ y : Int32, y = j + 1 := ⟨_, rfl⟩
          try (have tx8 := addI (a := j) (b := 1) (by omega) (by omega); rw [← ex8] at tx8)
          refine lv_iinc (v := x8) (lv' := [(2, .int x8), (0, .ref h0), (1, .ref h1)]) hx hb dX3_countRows_17 hl (k := 2) rfl (by rw [ex8]; rfl) (by decide) rfl (fun ls hl => ?_)
          refine lv_goto (tgt := 2) hx hb dX3_countRows_20 (by decide) ?_
          exact ih2 x8 _ _ _ (by omega) (by omega) (lv_sub hl [1, 2, 0] rfl) hM
  exact loop2 (((60 - (0 : Int32).toInt).toNat) + 1) 0 _ _ _ (by omega) (by omega) (lv_sub hl [1, 2, 0] rfl) hM
set_option maxHeartbeats 4000000 in
set_option maxRecDepth 100000 in
theorem c_X3_rowOn (l : Launch) (D : gD) (H0 : Heap) (S : Mem) (kc ns : Nat) (h0 h1 : Nat) (i0 : Int32) {u : Nat} {tl : Int} {rho : Nat} (hI : CI x0 u tl rho S) (kh0 : mK S h0 = 4) (kh1 : mK S h1 = 5) : Met l yX3_rowOn (wsU yX3_rowOn cX3_rowOn 5 (some (.object "ClickBench$Part"))) ({ frames := 2, cells := 0, slots := 0, locals := 51 } : Room) (mP D H0 S kc ns [.ref h0, .ref h1, .int i0]) (mQ D H0 gR (fun r S1 k1 n1 => S = S1 ∧ kc = k1 ∧ ns = n1 ∧ (∀ q, r = some q → mK S q = 6))) 0 0 (mF H0) := by
  refine r_met (own := RX3) (by decide +kernel) rfl (Nat.le_of_ble_eq_true rfl) ?_
  intro p e s m args below meth c C hr hlk hnm H ls hl hM
  obtain ⟨hx, hb, hml, hown, hts, -, -⟩ := id C
  have hl : lv_has ls 5 [(0, .ref h0), (1, .ref h1), (2, .int i0)] := hl
  have t_0 : (0 : Int32).toInt = 0 := by decide
  have t_1 : (1 : Int32).toInt = 1 := by decide
  have t_60 : (60 : Int32).toInt = 60 := by decide
  refine lv_iconst (v := 0) hx hb dX3_rowOn_0 (by decide) ?_
  refine lv_istore_n (lv' := [(3, .int 0), (0, .ref h0), (1, .ref h1), (2, .int i0)]) hx hb dX3_rowOn_1 rfl hl (by decide) rfl (fun ls hl => ?_)
  have loop2 : ∀ (fu : Nat) (j : Int32) (H : Heap) (locs : List Loc) (ls : Array Slot), (0 ≤ j.toInt) → (60 - j.toInt).toNat < fu → lv_has ls 5 [(0, .ref h0), (1, .ref h1), (2, .int i0), (3, .int j)] → mH D H0 S kc ns H locs → W p l e ({ frames := 2, cells := 0, slots := 0, locals := 51 } : Room) s m args below meth c H locs 0 0 (MQ below (mQ D H0 gR (fun r S1 k1 n1 => S = S1 ∧ kc = k1 ∧ ns = n1 ∧ (∀ q, r = some q → mK S q = 6))) args s 0 0 (mF H0)) (F0 m 2 ls []) := by
    intro fu
    induction fu with
    | zero => intro j H locs ls h2_0 hfu; exact absurd hfu (by omega)
    | succ fu ih2 =>
      intro j H locs ls h2_0 hfu hl hM
      refine lv_iload_n hx hb dX3_rowOn_2 rfl (lv_at hl 3 rfl) ?_
      refine lv_bipush (v := 60) hx hb dX3_rowOn_3 (by decide) ?_
      refine lv_icmp_ge (tgt := 40) hx hb dX3_rowOn_5 (by decide) (fun c1 => ?_) (fun c1 => ?_)
      · have tc1 := leT c1
        refine lv_null hx hb dX3_rowOn_40 ?_
        exact r_retR (v := none) C hr hlk hM (⟨rfl, rfl, rfl, fun z h => by cases h⟩) dX3_rowOn_41
      · have tc1 := leF c1
        refine lv_iload_n hx hb dX3_rowOn_8 rfl (lv_at hl 3 rfl) ?_
        refine lv_iload_n hx hb dX3_rowOn_9 rfl (lv_at hl 2 rfl) ?_
        refine lv_icmp_gt (tgt := 40) hx hb dX3_rowOn_10 (by decide) (fun c2 => ?_) (fun c2 => ?_)
        · have tc2 := ltT c2
          refine lv_null hx hb dX3_rowOn_40 ?_
          exact r_retR (v := none) C hr hlk hM (⟨rfl, rfl, rfl, fun z h => by cases h⟩) dX3_rowOn_41
        · have tc2 := ltF c2
          refine lv_aload_n hx hb dX3_rowOn_13 rfl (lv_at hl 0 rfl) ?_
          refine lv_aload_n hx hb dX3_rowOn_14 rfl (lv_at hl 1 rfl) ?_
          refine lv_iload_n hx hb dX3_rowOn_15 rfl (lv_at hl 3 rfl) ?_
          refine r_V (As := [.ref h1, .int j]) (rest := []) (ci := 3) C hM (c_X3_stepOn l D H0 S kc ns h0 h1 j hI kh0 kh1) i_X3_stepOn m_X3_66 kh0 rfl rfl rfl hl.1 rfl (Nat.le_of_ble_eq_true rfl) ⟨by decide, by decide⟩ ⟨by decide, by decide⟩ dX3_rowOn_16 (fun r6 S3 k4 n5 H locs p7 hM => ?_)
          obtain ⟨rfl, rfl, rfl, kr6⟩ := p7
          refine W.eq (g2 := F0 m 19 ls [va_rf r6]) rfl ?_
          refine lv_astoreQ (lv' := [(4, va_rf r6), (0, .ref h0), (1, .ref h1), (2, .int i0), (3, .int j)]) hx hb dX3_rowOn_19 hl (by decide) rfl (fun ls hl => ?_)
          refine lv_aloadQ hx hb dX3_rowOn_21 (lv_at hl 0 rfl) ?_
          cases r6 with
          | none =>
            refine lv_ifnullN (tgt := 31) hx hb dX3_rowOn_23 (by decide) ?_
            refine lv_aloadN hx hb dX3_rowOn_31 (lv_at hl 0 rfl) ?_
            exact r_retR (v := none) C hr hlk hM (⟨rfl, rfl, rfl, fun z h => by cases h⟩) dX3_rowOn_33
          | some q8 =>
            have kq8 : mK S q8 = 6 := kr6 q8 rfl
            refine lv_ifnull hx hb dX3_rowOn_23 ?_
            refine lv_iload_n hx hb dX3_rowOn_26 rfl (lv_at hl 4 rfl) ?_
            refine lv_iload_n hx hb dX3_rowOn_27 rfl (lv_at hl 3 rfl) ?_
            refine lv_icmp_ne (tgt := 34) hx hb dX3_rowOn_28 (by decide) (fun c9 => ?_) (fun c9 => ?_)
            · have tc9 := eqF c9
              obtain ⟨x10, ex10⟩ : ∃ y : Int32, y = j + 1 := ⟨_, rfl⟩
              try (have tx10 := addI (a := j) (b := 1) (by omega) (by omega); rw [← ex10] at tx10)
              refine lv_iinc (v := x10) (lv' := [(3, .int x10), (4, .ref q8), (0, .ref h0), (1, .ref h1), (2, .int i0)]) hx hb dX3_rowOn_34 hl (k := 4) rfl (by rw [ex10]; rfl) (by decide) rfl (fun ls hl => ?_)
              refine lv_goto (tgt := 2) hx hb dX3_rowOn_37 (by decide) ?_
              exact ih2 x10 _ _ _ (by omega) (by omega) (lv_sub hl [2, 3, 4, 0] rfl) hM
            · have tc9 := eqT c9
              refine lv_aload hx hb dX3_rowOn_31 (lv_at hl 0 rfl) ?_
              exact r_retR (v := (some q8)) C hr hlk hM (⟨rfl, rfl, rfl, fun z h => by cases h; exact kq8⟩) dX3_rowOn_33
  exact loop2 (((60 - (0 : Int32).toInt).toNat) + 1) 0 _ _ _ (by omega) (by omega) (lv_sub hl [1, 2, 3, 0] rfl) hM
