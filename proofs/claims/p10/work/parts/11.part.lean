set_option maxHeartbeats 4000000 in
set_option maxRecDepth 100000 in
theorem c_X4_at (l : Launch) (D : gD) (H0 : gB) (S : Mem) (kc ns : Nat) (h0 : Nat) (i0 : Int32) {x : Nat → Nat → Prop} {u : Nat} {tl : Int} {rho : Nat × Nat} (hI : CI x u tl rho S) (hx0 : ¬ x h0 (100 * 4 + 0)) (kh0 : mK S h0 = 5) : Met l yX4_at (wsU yX4_at cX4_at 2 (some (.object "ClickBench$Part"))) ({ frames := 0, cells := 0, slots := 0, locals := 0 } : Room) (mP D H0 S kc ns [.ref h0, .int i0]) (mQ D H0 gR (fun r S1 k1 n1 => S = S1 ∧ kc = k1 ∧ ns = n1 ∧ (∀ q, r = some q → mK S q = 6))) 0 0 (mF H0) := by
  refine r_met (own := RX4) (by decide +kernel) rfl (Nat.le_of_ble_eq_true rfl) ?_
  intro p e s m args below meth c C hr hlk hnm H ls hl hM
  obtain ⟨hx, hb, hml, hown, hts, -, -⟩ := id C
  have hl : lv_has ls 2 [(0, .ref h0), (1, .int i0)] := hl
  have t_0 : (0 : Int32).toInt = 0 := by decide
  refine lv_iload_n hx hb dX4_at_0 rfl (lv_at hl 1 rfl) ?_
  refine lv_if_lt (tgt := 12) hx hb dX4_at_1 (by decide) (fun cv1 => ?_) (fun cv1 => ?_)
  · have tcv1 := ltT cv1
    refine lv_null hx hb dX4_at_12 ?_
    refine lv_goto (tgt := 22) hx hb dX4_at_13 (by decide) ?_
    exact r_retR (v := none) C hr hlk hM (⟨rfl, rfl, rfl, fun z h => by cases h⟩) dX4_at_22
  · have tcv1 := ltF cv1
    refine lv_iload_n hx hb dX4_at_4 rfl (lv_at hl 1 rfl) ?_
    refine lv_aload_n hx hb dX4_at_5 rfl (lv_at hl 0 rfl) ?_
    refine r_get (ci := 4) (k := 1) (v := .int (mI S 401 h0)) C hM kh0 f_X4_17 rfl dX4_at_6 ?_
    refine lv_topi (fun xv2 exv2 => ?_)
    have fxv2 := NI.f401 hI.2 kh0
    rw [← exv2] at fxv2
    refine lv_icmp_lt (tgt := 16) hx hb dX4_at_9 (by decide) (fun cv3 => ?_) (fun cv3 => ?_)
    · have tcv3 := ltT cv3
      refine lv_aload_n hx hb dX4_at_16 rfl (lv_at hl 0 rfl) ?_
      obtain ⟨qv4, eqv4, kqv4, nqv4⟩ := TI.nn hI.1 (ci := 4) (k := 0) kh0
      refine r_get (ci := 4) (k := 0) (v := .ref qv4) C hM kh0 f_X4_11 (congrArg va_rf eqv4) dX4_at_17 ?_
      refine lv_iload_n hx hb dX4_at_20 rfl (lv_at hl 1 rfl) ?_
      refine r_aald (t := 0) C hM kqv4 rfl (by decide) (inI (by omega) (by rw [nqv4 (by decide)]; show _ < (60 : Int); omega)) dX4_at_21 ?_
      obtain ⟨rv5, erv5, krv5⟩ : ∃ r : Option Nat, aR S qv4 i0.toNatClampNeg = r ∧ ∀ q, r = some q → mK S q = 6 := ⟨_, rfl, TI.arr hI.1 (t := 0) kqv4⟩
      refine W.eq (g2 := F0 m 22 ls [va_rf rv5]) (by rw [← erv5]) ?_
      exact r_retR (v := rv5) C hr hlk hM (⟨rfl, rfl, rfl, krv5⟩) dX4_at_22
    · have tcv3 := ltF cv3
      refine lv_null hx hb dX4_at_12 ?_
      refine lv_goto (tgt := 22) hx hb dX4_at_13 (by decide) ?_
      exact r_retR (v := none) C hr hlk hM (⟨rfl, rfl, rfl, fun z h => by cases h⟩) dX4_at_22
set_option maxHeartbeats 4000000 in
set_option maxRecDepth 100000 in
theorem c_X5_labelBehind (l : Launch) (D : gD) (H0 : gB) (S : Mem) (kc ns : Nat) (o0 : Option Nat) {x : Nat → Nat → Prop} {u : Nat} {tl : Int} {rho : Nat × Nat} (hI : CI x u tl rho S) (ko0 : ∀ q, o0 = some q → mK S q = 6) : Met l yX5_labelBehind (wsU yX5_labelBehind cX5_labelBehind 1 (some (.object "ClickBench$Part"))) ({ frames := 0, cells := 0, slots := 0, locals := 0 } : Room) (mP D H0 S kc ns [va_rf o0]) (mQ D H0 gR (fun r S1 k1 n1 => S = S1 ∧ kc = k1 ∧ ns = n1 ∧ (∀ q, r = some q → mK S q = 6))) 0 0 (mF H0) := by
  refine r_met (own := RX5) (by decide +kernel) rfl (by simp [lg_sl, cat_rf, cat_i, cat_l, cat_a, cat_n]) ?_
  intro p e s m args below meth c C hr hlk hnm H ls hl hM
  obtain ⟨hx, hb, hml, hown, hts, -, -⟩ := id C
  have hl : lv_has ls 1 [(0, va_rf o0)] := by simpa [lv_args, cat_rf, cat_i, cat_l, cat_a, cat_n] using hl
  have t_0 : (0 : Int32).toInt = 0 := by decide
  refine lv_aload_nQ hx hb dX5_labelBehind_0 rfl (lv_at hl 0 rfl) ?_
  cases o0 with
  | none =>
    refine lv_ifnonnullN hx hb dX5_labelBehind_1 ?_
    refine lv_null hx hb dX5_labelBehind_4 ?_
    exact r_retR (v := none) C hr hlk hM (⟨rfl, rfl, rfl, fun z h => by cases h⟩) dX5_labelBehind_5
  | some qv1 =>
    have kqv1 : mK S qv1 = 6 := ko0 qv1 rfl
    refine lv_ifnonnull (tgt := 6) hx hb dX5_labelBehind_1 (by decide) ?_
    refine lv_aload_n hx hb dX5_labelBehind_6 rfl (lv_at hl 0 rfl) ?_
    refine r_get (ci := 5) (k := 2) (v := .long (mL S 502 qv1)) C hM kqv1 f_X5_46 rfl dX5_labelBehind_7 ?_
    refine lv_topl (fun lv2 elv2 => ?_)
    refine lv_ldc2 hx hb hown (hts _ q_X5_84) dX5_labelBehind_10 ?_
    refine W.lcmp hx hb dX5_labelBehind_13 ?_
    refine lv_topi (fun xv3 exv3 => ?_)
    refine lv_if_ne (tgt := 28) hx hb dX5_labelBehind_14 (by decide) (fun cv4 => ?_) (fun cv4 => ?_)
    · have tcv4 := eqF cv4
      refine lv_aload_n hx hb dX5_labelBehind_28 rfl (lv_at hl 0 rfl) ?_
      refine r_get (ci := 5) (k := 5) C hM kqv1 f_X5_71 rfl dX5_labelBehind_29 ?_
      obtain ⟨rv5, erv5, krv5⟩ : ∃ r : Option Nat, mR S 505 qv1 = r ∧ ∀ q, r = some q → mK S q = 6 := ⟨_, rfl, TI.opt hI.1 (ci := 5) (k := 5) kqv1⟩
      refine W.eq (g2 := F0 m 32 ls [va_rf rv5]) (by rw [← erv5]; rfl) ?_
      exact r_retR (v := rv5) C hr hlk hM (⟨rfl, rfl, rfl, krv5⟩) dX5_labelBehind_32
    · have tcv4 := eqT cv4
      refine lv_aload_n hx hb dX5_labelBehind_17 rfl (lv_at hl 0 rfl) ?_
      refine r_get (ci := 5) (k := 13) (v := .int (mI S 513 qv1)) C hM kqv1 f_X5_29 rfl dX5_labelBehind_18 ?_
      refine lv_topi (fun xv6 exv6 => ?_)
      refine lv_if_le (tgt := 28) hx hb dX5_labelBehind_21 (by decide) (fun cv7 => ?_) (fun cv7 => ?_)
      · have tcv7 := leT cv7
        refine lv_aload_n hx hb dX5_labelBehind_28 rfl (lv_at hl 0 rfl) ?_
        refine r_get (ci := 5) (k := 5) C hM kqv1 f_X5_71 rfl dX5_labelBehind_29 ?_
        obtain ⟨rv8, erv8, krv8⟩ : ∃ r : Option Nat, mR S 505 qv1 = r ∧ ∀ q, r = some q → mK S q = 6 := ⟨_, rfl, TI.opt hI.1 (ci := 5) (k := 5) kqv1⟩
        refine W.eq (g2 := F0 m 32 ls [va_rf rv8]) (by rw [← erv8]; rfl) ?_
        exact r_retR (v := rv8) C hr hlk hM (⟨rfl, rfl, rfl, krv8⟩) dX5_labelBehind_32
      · have tcv7 := leF cv7
        refine lv_aload_n hx hb dX5_labelBehind_24 rfl (lv_at hl 0 rfl) ?_
        refine lv_goto (tgt := 32) hx hb dX5_labelBehind_25 (by decide) ?_
        exact r_retR (v := (some qv1)) C hr hlk hM (⟨rfl, rfl, rfl, fun z h => by cases h; exact kqv1⟩) dX5_labelBehind_32
set_option maxHeartbeats 4000000 in
set_option maxRecDepth 100000 in
theorem c_X5_turnBehind (l : Launch) (D : gD) (H0 : gB) (S : Mem) (kc ns : Nat) (o0 : Option Nat) (j0 : Int64) {x : Nat → Nat → Prop} {u : Nat} {tl : Int} {rho : Nat × Nat} (hI : CI x u tl rho S) (ko0 : ∀ q, o0 = some q → mK S q = 6) : Met l yX5_turnBehind (wsU yX5_turnBehind cX5_turnBehind 4 (some .int)) ({ frames := 0, cells := 0, slots := 0, locals := 0 } : Room) (mP D H0 S kc ns [va_rf o0, .long j0]) (mQ D H0 gI (fun r S1 k1 n1 => S = S1 ∧ kc = k1 ∧ ns = n1 ∧ True)) 0 0 (mF H0) := by
  refine r_met (own := RX5) (by decide +kernel) rfl (by simp [lg_sl, cat_rf, cat_i, cat_l, cat_a, cat_n]) ?_
  intro p e s m args below meth c C hr hlk hnm H ls hl hM
  obtain ⟨hx, hb, hml, hown, hts, -, -⟩ := id C
  have hl : lv_has ls 4 [(0, va_rf o0), (1, .long j0)] := by simpa [lv_args, cat_rf, cat_i, cat_l, cat_a, cat_n] using hl
  have t_0 : (0 : Int32).toInt = 0 := by decide
  have t_1 : (1 : Int32).toInt = 1 := by decide
  refine lv_aload_nQ hx hb dX5_turnBehind_0 rfl (lv_at hl 0 rfl) ?_
  refine lv_astore_nQ (lv' := [(3, va_rf o0), (0, va_rf o0), (1, .long j0)]) hx hb dX5_turnBehind_1 rfl hl (by decide) rfl (fun ls hl => ?_)
  have loop2 : ∀ (fu : Nat) (o : Option Nat) (H : Heap) (locs : List Loc) (ls : Array Slot), (∀ q, o = some q → mK S q = 6) → cm S o < fu → lv_has ls 4 [(1, .long j0), (3, va_rf o)] → mH D H0 S kc ns H locs → W p l e ({ frames := 0, cells := 0, slots := 0, locals := 0 } : Room) s m args below meth c H locs 0 0 (MQ below (mQ D H0 gI (fun r S1 k1 n1 => S = S1 ∧ kc = k1 ∧ ns = n1 ∧ True)) args s 0 0 (mF H0)) (F0 m 2 ls []) := by
    intro fu
    induction fu with
    | zero => intro o H locs ls h2_0 hfu; exact absurd hfu (by omega)
    | succ fu ih2 =>
      intro o H locs ls h2_0 hfu hl hM
      have ko := h2_0
      refine lv_aload_nQ hx hb dX5_turnBehind_2 rfl (lv_at hl 1 rfl) ?_
      cases o with
      | none =>
        refine lv_ifnullN (tgt := 30) hx hb dX5_turnBehind_3 (by decide) ?_
        refine lv_iconst (v := 0) hx hb dX5_turnBehind_30 (by decide) ?_
        exact r_retI C hr hlk hM (⟨rfl, rfl, rfl, trivial⟩) dX5_turnBehind_31
      | some qv1 =>
        have kqv1 : mK S qv1 = 6 := ko qv1 rfl
        refine lv_ifnull hx hb dX5_turnBehind_3 ?_
        refine lv_aload_n hx hb dX5_turnBehind_6 rfl (lv_at hl 1 rfl) ?_
        refine r_get (ci := 5) (k := 2) (v := .long (mL S 502 qv1)) C hM kqv1 f_X5_46 rfl dX5_turnBehind_7 ?_
        refine lv_topl (fun lv2 elv2 => ?_)
        refine lv_lload_n hx hb dX5_turnBehind_10 rfl (lv_at hl 0 rfl) ?_
        refine W.lcmp hx hb dX5_turnBehind_11 ?_
        refine lv_topi (fun xv3 exv3 => ?_)
        refine lv_if_ne (tgt := 22) hx hb dX5_turnBehind_12 (by decide) (fun cv4 => ?_) (fun cv4 => ?_)
        · have tcv4 := eqF cv4
          refine lv_aload_n hx hb dX5_turnBehind_22 rfl (lv_at hl 1 rfl) ?_
          refine r_get (ci := 5) (k := 4) C hM kqv1 f_X5_52 rfl dX5_turnBehind_23 ?_
          obtain ⟨rv5, erv5, krv5⟩ : ∃ r : Option Nat, mR S 504 qv1 = r ∧ ∀ q, r = some q → mK S q = 6 := ⟨_, rfl, TI.opt hI.1 (ci := 5) (k := 4) kqv1⟩
          refine W.eq (g2 := F0 m 26 ls [va_rf rv5]) (by rw [← erv5]; rfl) ?_
          refine lv_astore_nQ (lv' := [(3, va_rf rv5), (1, .long j0)]) hx hb dX5_turnBehind_26 rfl hl (by decide) rfl (fun ls hl => ?_)
          refine lv_goto (tgt := 2) hx hb dX5_turnBehind_27 (by decide) ?_
          have h93 := cm504 hI kqv1; rw [erv5] at h93
          exact ih2 rv5 _ _ _ ((krv5)) (by omega) (lv_sub hl [1, 0] rfl) hM
        · have tcv4 := eqT cv4
          refine lv_aload_n hx hb dX5_turnBehind_15 rfl (lv_at hl 1 rfl) ?_
          refine r_get (ci := 5) (k := 6) (v := .int (mI S 506 qv1)) C hM kqv1 f_X5_78 rfl dX5_turnBehind_16 ?_
          refine lv_topi (fun xv6 exv6 => ?_)
          refine lv_iconst (v := 1) hx hb dX5_turnBehind_19 (by decide) ?_
          refine lv_iadd hx hb dX5_turnBehind_20 ?_
          refine lv_topi (fun xv7 exv7 => ?_)
          try (have txv7 := addI (a := xv6) (b := 1) (by omega) (by omega); rw [← exv7] at txv7)
          exact r_retI C hr hlk hM (⟨rfl, rfl, rfl, trivial⟩) dX5_turnBehind_21
  exact loop2 ((cm S o0) + 1) o0 _ _ _ (ko0) (by omega) (lv_sub hl [2, 0] rfl) hM
set_option maxHeartbeats 4000000 in
set_option maxRecDepth 100000 in
theorem c_X5_textByte (l : Launch) (D : gD) (H0 : gB) (S : Mem) (kc ns : Nat) (h0 : Nat) (i0 : Int32) {u : Nat} {tl : Int} {rho : Nat × Nat} (hI : CI x0 u tl rho S) (kh0 : mK S h0 = 6) : Met l yX5_textByte (wsU yX5_textByte cX5_textByte 5 (some .int)) ({ frames := 0, cells := 0, slots := 0, locals := 0 } : Room) (mP D H0 S kc ns [.ref h0, .int i0]) (mQ D H0 gI (fun r S1 k1 n1 => S = S1 ∧ kc = k1 ∧ ns = n1 ∧ True)) 0 0 (mF H0) := by
  refine r_met (own := RX5) (by decide +kernel) rfl (Nat.le_of_ble_eq_true rfl) ?_
  intro p e s m args below meth c C hr hlk hnm H ls hl hM
  obtain ⟨hx, hb, hml, hown, hts, -, -⟩ := id C
  have hl : lv_has ls 5 [(0, .ref h0), (1, .int i0)] := hl
  have t_m1 : (-1 : Int32).toInt = -1 := by decide
  have t_0 : (0 : Int32).toInt = 0 := by decide
  have t_1 : (1 : Int32).toInt = 1 := by decide
  have t_8 : (8 : Int32).toInt = 8 := by decide
  have t_255 : (255 : Int32).toInt = 255 := by decide
  refine lv_iload_n hx hb dX5_textByte_0 rfl (lv_at hl 1 rfl) ?_
  refine lv_if_lt (tgt := 12) hx hb dX5_textByte_1 (by decide) (fun cv1 => ?_) (fun cv1 => ?_)
  · have tcv1 := ltT cv1
    refine lv_iconst (v := -1) hx hb dX5_textByte_12 (by decide) ?_
    exact r_retI C hr hlk hM (⟨rfl, rfl, rfl, trivial⟩) dX5_textByte_13
  · have tcv1 := ltF cv1
    refine lv_iload_n hx hb dX5_textByte_4 rfl (lv_at hl 1 rfl) ?_
    refine lv_aload_n hx hb dX5_textByte_5 rfl (lv_at hl 0 rfl) ?_
    refine r_get (ci := 5) (k := 13) (v := .int (mI S 513 h0)) C hM kh0 f_X5_29 rfl dX5_textByte_6 ?_
    refine lv_topi (fun xv2 exv2 => ?_)
    refine lv_icmp_lt (tgt := 14) hx hb dX5_textByte_9 (by decide) (fun cv3 => ?_) (fun cv3 => ?_)
    · have tcv3 := ltT cv3
      refine lv_iload_n hx hb dX5_textByte_14 rfl (lv_at hl 1 rfl) ?_
      refine lv_bipush (v := 8) hx hb dX5_textByte_15 (by decide) ?_
      refine lv_icmp_ge (tgt := 24) hx hb dX5_textByte_17 (by decide) (fun cv4 => ?_) (fun cv4 => ?_)
      · have tcv4 := leT cv4
        refine lv_iconst (v := 0) hx hb dX5_textByte_24 (by decide) ?_
        refine lv_istore_n (lv' := [(2, .int 0), (0, .ref h0), (1, .int i0)]) hx hb dX5_textByte_25 rfl hl (by decide) rfl (fun ls hl => ?_)
        refine lv_iload_n hx hb dX5_textByte_26 rfl (lv_at hl 0 rfl) ?_
        refine lv_if_eq (tgt := 37) hx hb dX5_textByte_27 (by decide) (fun cv5 => ?_) (fun cv5 => ?_)
        · have tcv5 := eqT cv5
          refine lv_aload_n hx hb dX5_textByte_37 rfl (lv_at hl 1 rfl) ?_
          refine r_get (ci := 5) (k := 12) (v := .long (mL S 512 h0)) C hM kh0 f_X5_26 rfl dX5_textByte_38 ?_
          refine lv_topl (fun lv6 elv6 => ?_)
          refine lv_lstore_n (lv' := [(3, .long lv6), (2, .int 0), (0, .ref h0), (1, .int i0)]) hx hb dX5_textByte_41 rfl hl (by decide) rfl (fun ls hl => ?_)
          refine lv_lload_n hx hb dX5_textByte_42 rfl (lv_at hl 0 rfl) ?_
          refine lv_bipush (v := 8) hx hb dX5_textByte_43 (by decide) ?_
          refine lv_iload_n hx hb dX5_textByte_45 rfl (lv_at hl 1 rfl) ?_
          refine lv_if_eq (tgt := 53) hx hb dX5_textByte_46 (by decide) (fun cv7 => ?_) (fun cv7 => ?_)
          · have tcv7 := eqT cv7
            refine lv_iload_n hx hb dX5_textByte_53 rfl (lv_at hl 3 rfl) ?_
            refine lv_bipush (v := 8) hx hb dX5_textByte_54 (by decide) ?_
            refine lv_isub hx hb dX5_textByte_56 ?_
            refine lv_topi (fun xv8 exv8 => ?_)
            try (have txv8 := subI (a := i0) (b := 8) (by omega) (by omega); rw [← exv8] at txv8)
            refine lv_imul hx hb dX5_textByte_57 ?_
            refine lv_topi (fun xv9 exv9 => ?_)
            try (have txv9 := mulD (a := xv8) (k := 8) (n := 8) (by decide) (by omega) (by omega); rw [← exv9] at txv9)
            refine lv_lshr hx hb dX5_textByte_58 rfl ?_
            refine lv_topl (fun lv10 elv10 => ?_)
            refine lv_l2i hx hb dX5_textByte_59 rfl ?_
            refine lv_topi (fun xv11 exv11 => ?_)
            refine lv_sipush (v := 255) hx hb dX5_textByte_60 (by decide) ?_
            refine lv_iand hx hb dX5_textByte_63 ?_
            refine lv_topi (fun xv12 exv12 => ?_)
            exact r_retI C hr hlk hM (⟨rfl, rfl, rfl, trivial⟩) dX5_textByte_64
          · have tcv7 := eqF cv7
            refine lv_iload_n hx hb dX5_textByte_49 rfl (lv_at hl 3 rfl) ?_
            refine lv_goto (tgt := 57) hx hb dX5_textByte_50 (by decide) ?_
            refine lv_imul hx hb dX5_textByte_57 ?_
            refine lv_topi (fun xv13 exv13 => ?_)
            try (have txv13 := mulD (a := i0) (k := 8) (n := 8) (by decide) (by omega) (by omega); rw [← exv13] at txv13)
            refine lv_lshr hx hb dX5_textByte_58 rfl ?_
            refine lv_topl (fun lv14 elv14 => ?_)
            refine lv_l2i hx hb dX5_textByte_59 rfl ?_
            refine lv_topi (fun xv15 exv15 => ?_)
            refine lv_sipush (v := 255) hx hb dX5_textByte_60 (by decide) ?_
            refine lv_iand hx hb dX5_textByte_63 ?_
            refine lv_topi (fun xv16 exv16 => ?_)
            exact r_retI C hr hlk hM (⟨rfl, rfl, rfl, trivial⟩) dX5_textByte_64
        · have tcv5 := eqF cv5
          refine lv_aload_n hx hb dX5_textByte_30 rfl (lv_at hl 1 rfl) ?_
          refine r_get (ci := 5) (k := 11) (v := .long (mL S 511 h0)) C hM kh0 f_X5_23 rfl dX5_textByte_31 ?_
          refine lv_topl (fun lv17 elv17 => ?_)
          refine lv_goto (tgt := 41) hx hb dX5_textByte_34 (by decide) ?_
          refine lv_lstore_n (lv' := [(3, .long lv17), (2, .int 0), (0, .ref h0), (1, .int i0)]) hx hb dX5_textByte_41 rfl hl (by decide) rfl (fun ls hl => ?_)
          refine lv_lload_n hx hb dX5_textByte_42 rfl (lv_at hl 0 rfl) ?_
          refine lv_bipush (v := 8) hx hb dX5_textByte_43 (by decide) ?_
          refine lv_iload_n hx hb dX5_textByte_45 rfl (lv_at hl 1 rfl) ?_
          refine lv_if_eq (tgt := 53) hx hb dX5_textByte_46 (by decide) (fun cv18 => ?_) (fun cv18 => ?_)
          · have tcv18 := eqT cv18
            refine lv_iload_n hx hb dX5_textByte_53 rfl (lv_at hl 3 rfl) ?_
            refine lv_bipush (v := 8) hx hb dX5_textByte_54 (by decide) ?_
            refine lv_isub hx hb dX5_textByte_56 ?_
            refine lv_topi (fun xv19 exv19 => ?_)
            try (have txv19 := subI (a := i0) (b := 8) (by omega) (by omega); rw [← exv19] at txv19)
            refine lv_imul hx hb dX5_textByte_57 ?_
            refine lv_topi (fun xv20 exv20 => ?_)
            try (have txv20 := mulD (a := xv19) (k := 8) (n := 8) (by decide) (by omega) (by omega); rw [← exv20] at txv20)
            refine lv_lshr hx hb dX5_textByte_58 rfl ?_
            refine lv_topl (fun lv21 elv21 => ?_)
            refine lv_l2i hx hb dX5_textByte_59 rfl ?_
            refine lv_topi (fun xv22 exv22 => ?_)
            refine lv_sipush (v := 255) hx hb dX5_textByte_60 (by decide) ?_
            refine lv_iand hx hb dX5_textByte_63 ?_
            refine lv_topi (fun xv23 exv23 => ?_)
            exact r_retI C hr hlk hM (⟨rfl, rfl, rfl, trivial⟩) dX5_textByte_64
          · have tcv18 := eqF cv18
            refine lv_iload_n hx hb dX5_textByte_49 rfl (lv_at hl 3 rfl) ?_
            refine lv_goto (tgt := 57) hx hb dX5_textByte_50 (by decide) ?_
            refine lv_imul hx hb dX5_textByte_57 ?_
            refine lv_topi (fun xv24 exv24 => ?_)
            try (have txv24 := mulD (a := i0) (k := 8) (n := 8) (by decide) (by omega) (by omega); rw [← exv24] at txv24)
            refine lv_lshr hx hb dX5_textByte_58 rfl ?_
            refine lv_topl (fun lv25 elv25 => ?_)
            refine lv_l2i hx hb dX5_textByte_59 rfl ?_
            refine lv_topi (fun xv26 exv26 => ?_)
            refine lv_sipush (v := 255) hx hb dX5_textByte_60 (by decide) ?_
            refine lv_iand hx hb dX5_textByte_63 ?_
            refine lv_topi (fun xv27 exv27 => ?_)
            exact r_retI C hr hlk hM (⟨rfl, rfl, rfl, trivial⟩) dX5_textByte_64
      · have tcv4 := leF cv4
        refine lv_iconst (v := 1) hx hb dX5_textByte_20 (by decide) ?_
        refine lv_goto (tgt := 25) hx hb dX5_textByte_21 (by decide) ?_
        refine lv_istore_n (lv' := [(2, .int 1), (0, .ref h0), (1, .int i0)]) hx hb dX5_textByte_25 rfl hl (by decide) rfl (fun ls hl => ?_)
        refine lv_iload_n hx hb dX5_textByte_26 rfl (lv_at hl 0 rfl) ?_
        refine lv_if_eq (tgt := 37) hx hb dX5_textByte_27 (by decide) (fun cv28 => ?_) (fun cv28 => ?_)
        · have tcv28 := eqT cv28
          refine lv_aload_n hx hb dX5_textByte_37 rfl (lv_at hl 1 rfl) ?_
          refine r_get (ci := 5) (k := 12) (v := .long (mL S 512 h0)) C hM kh0 f_X5_26 rfl dX5_textByte_38 ?_
          refine lv_topl (fun lv29 elv29 => ?_)
          refine lv_lstore_n (lv' := [(3, .long lv29), (2, .int 1), (0, .ref h0), (1, .int i0)]) hx hb dX5_textByte_41 rfl hl (by decide) rfl (fun ls hl => ?_)
          refine lv_lload_n hx hb dX5_textByte_42 rfl (lv_at hl 0 rfl) ?_
          refine lv_bipush (v := 8) hx hb dX5_textByte_43 (by decide) ?_
          refine lv_iload_n hx hb dX5_textByte_45 rfl (lv_at hl 1 rfl) ?_
          refine lv_if_eq (tgt := 53) hx hb dX5_textByte_46 (by decide) (fun cv30 => ?_) (fun cv30 => ?_)
          · have tcv30 := eqT cv30
            refine lv_iload_n hx hb dX5_textByte_53 rfl (lv_at hl 3 rfl) ?_
            refine lv_bipush (v := 8) hx hb dX5_textByte_54 (by decide) ?_
            refine lv_isub hx hb dX5_textByte_56 ?_
            refine lv_topi (fun xv31 exv31 => ?_)
            try (have txv31 := subI (a := i0) (b := 8) (by omega) (by omega); rw [← exv31] at txv31)
            refine lv_imul hx hb dX5_textByte_57 ?_
            refine lv_topi (fun xv32 exv32 => ?_)
            try (have txv32 := mulD (a := xv31) (k := 8) (n := 8) (by decide) (by omega) (by omega); rw [← exv32] at txv32)
            refine lv_lshr hx hb dX5_textByte_58 rfl ?_
            refine lv_topl (fun lv33 elv33 => ?_)
            refine lv_l2i hx hb dX5_textByte_59 rfl ?_
            refine lv_topi (fun xv34 exv34 => ?_)
            refine lv_sipush (v := 255) hx hb dX5_textByte_60 (by decide) ?_
            refine lv_iand hx hb dX5_textByte_63 ?_
            refine lv_topi (fun xv35 exv35 => ?_)
            exact r_retI C hr hlk hM (⟨rfl, rfl, rfl, trivial⟩) dX5_textByte_64
          · have tcv30 := eqF cv30
            refine lv_iload_n hx hb dX5_textByte_49 rfl (lv_at hl 3 rfl) ?_
            refine lv_goto (tgt := 57) hx hb dX5_textByte_50 (by decide) ?_
            refine lv_imul hx hb dX5_textByte_57 ?_
            refine lv_topi (fun xv36 exv36 => ?_)
            try (have txv36 := mulD (a := i0) (k := 8) (n := 8) (by decide) (by omega) (by omega); rw [← exv36] at txv36)
            refine lv_lshr hx hb dX5_textByte_58 rfl ?_
            refine lv_topl (fun lv37 elv37 => ?_)
            refine lv_l2i hx hb dX5_textByte_59 rfl ?_
            refine lv_topi (fun xv38 exv38 => ?_)
            refine lv_sipush (v := 255) hx hb dX5_textByte_60 (by decide) ?_
            refine lv_iand hx hb dX5_textByte_63 ?_
            refine lv_topi (fun xv39 exv39 => ?_)
            exact r_retI C hr hlk hM (⟨rfl, rfl, rfl, trivial⟩) dX5_textByte_64
        · have tcv28 := eqF cv28
          refine lv_aload_n hx hb dX5_textByte_30 rfl (lv_at hl 1 rfl) ?_
          refine r_get (ci := 5) (k := 11) (v := .long (mL S 511 h0)) C hM kh0 f_X5_23 rfl dX5_textByte_31 ?_
          refine lv_topl (fun lv40 elv40 => ?_)
          refine lv_goto (tgt := 41) hx hb dX5_textByte_34 (by decide) ?_
          refine lv_lstore_n (lv' := [(3, .long lv40), (2, .int 1), (0, .ref h0), (1, .int i0)]) hx hb dX5_textByte_41 rfl hl (by decide) rfl (fun ls hl => ?_)
          refine lv_lload_n hx hb dX5_textByte_42 rfl (lv_at hl 0 rfl) ?_
          refine lv_bipush (v := 8) hx hb dX5_textByte_43 (by decide) ?_
          refine lv_iload_n hx hb dX5_textByte_45 rfl (lv_at hl 1 rfl) ?_
          refine lv_if_eq (tgt := 53) hx hb dX5_textByte_46 (by decide) (fun cv41 => ?_) (fun cv41 => ?_)
          · have tcv41 := eqT cv41
            refine lv_iload_n hx hb dX5_textByte_53 rfl (lv_at hl 3 rfl) ?_
            refine lv_bipush (v := 8) hx hb dX5_textByte_54 (by decide) ?_
            refine lv_isub hx hb dX5_textByte_56 ?_
            refine lv_topi (fun xv42 exv42 => ?_)
            try (have txv42 := subI (a := i0) (b := 8) (by omega) (by omega); rw [← exv42] at txv42)
            refine lv_imul hx hb dX5_textByte_57 ?_
            refine lv_topi (fun xv43 exv43 => ?_)
            try (have txv43 := mulD (a := xv42) (k := 8) (n := 8) (by decide) (by omega) (by omega); rw [← exv43] at txv43)
            refine lv_lshr hx hb dX5_textByte_58 rfl ?_
            refine lv_topl (fun lv44 elv44 => ?_)
            refine lv_l2i hx hb dX5_textByte_59 rfl ?_
            refine lv_topi (fun xv45 exv45 => ?_)
            refine lv_sipush (v := 255) hx hb dX5_textByte_60 (by decide) ?_
            refine lv_iand hx hb dX5_textByte_63 ?_
            refine lv_topi (fun xv46 exv46 => ?_)
            exact r_retI C hr hlk hM (⟨rfl, rfl, rfl, trivial⟩) dX5_textByte_64
          · have tcv41 := eqF cv41
            refine lv_iload_n hx hb dX5_textByte_49 rfl (lv_at hl 3 rfl) ?_
            refine lv_goto (tgt := 57) hx hb dX5_textByte_50 (by decide) ?_
            refine lv_imul hx hb dX5_textByte_57 ?_
            refine lv_topi (fun xv47 exv47 => ?_)
            try (have txv47 := mulD (a := i0) (k := 8) (n := 8) (by decide) (by omega) (by omega); rw [← exv47] at txv47)
            refine lv_lshr hx hb dX5_textByte_58 rfl ?_
            refine lv_topl (fun lv48 elv48 => ?_)
            refine lv_l2i hx hb dX5_textByte_59 rfl ?_
            refine lv_topi (fun xv49 exv49 => ?_)
            refine lv_sipush (v := 255) hx hb dX5_textByte_60 (by decide) ?_
            refine lv_iand hx hb dX5_textByte_63 ?_
            refine lv_topi (fun xv50 exv50 => ?_)
            exact r_retI C hr hlk hM (⟨rfl, rfl, rfl, trivial⟩) dX5_textByte_64
    · have tcv3 := ltF cv3
      refine lv_iconst (v := -1) hx hb dX5_textByte_12 (by decide) ?_
      exact r_retI C hr hlk hM (⟨rfl, rfl, rfl, trivial⟩) dX5_textByte_13
set_option maxHeartbeats 4000000 in
set_option maxRecDepth 100000 in
theorem c_X5_isHarmful (l : Launch) (D : gD) (H0 : gB) (S : Mem) (kc ns : Nat) (h0 : Nat) {u : Nat} {tl : Int} {rho : Nat × Nat} (hI : CI x0 u tl rho S) (kh0 : mK S h0 = 6) : Met l yX5_isHarmful (wsU yX5_isHarmful cX5_isHarmful 2 (some .boolean)) ({ frames := 0, cells := 0, slots := 0, locals := 0 } : Room) (mP D H0 S kc ns [.ref h0]) (mQ D H0 gI (fun r S1 k1 n1 => S = S1 ∧ kc = k1 ∧ ns = n1 ∧ (r = 0 ∨ r = 1))) 0 0 (mF H0) := by
  refine r_met (own := RX5) (by decide +kernel) rfl (Nat.le_of_ble_eq_true rfl) ?_
  intro p e s m args below meth c C hr hlk hnm H ls hl hM
  obtain ⟨hx, hb, hml, hown, hts, -, -⟩ := id C
  have hl : lv_has ls 2 [(0, .ref h0)] := hl
  have t_0 : (0 : Int32).toInt = 0 := by decide
  have t_1 : (1 : Int32).toInt = 1 := by decide
  refine lv_aload_n hx hb dX5_isHarmful_0 rfl (lv_at hl 0 rfl) ?_
  refine lv_astore_n (lv' := [(1, .ref h0), (0, .ref h0)]) hx hb dX5_isHarmful_1 rfl hl (by decide) rfl (fun ls hl => ?_)
  have loop2 : ∀ (fu : Nat) (o : Option Nat) (H : Heap) (locs : List Loc) (ls : Array Slot), (∀ q, o = some q → mK S q = 6) → cm S o < fu → lv_has ls 2 [(1, va_rf o)] → mH D H0 S kc ns H locs → W p l e ({ frames := 0, cells := 0, slots := 0, locals := 0 } : Room) s m args below meth c H locs 0 0 (MQ below (mQ D H0 gI (fun r S1 k1 n1 => S = S1 ∧ kc = k1 ∧ ns = n1 ∧ (r = 0 ∨ r = 1))) args s 0 0 (mF H0)) (F0 m 2 ls []) := by
    intro fu
    induction fu with
    | zero => intro o H locs ls h2_0 hfu; exact absurd hfu (by omega)
    | succ fu ih2 =>
      intro o H locs ls h2_0 hfu hl hM
      have ko := h2_0
      refine lv_aload_nQ hx hb dX5_isHarmful_2 rfl (lv_at hl 0 rfl) ?_
      cases o with
      | none =>
        refine lv_ifnullN (tgt := 23) hx hb dX5_isHarmful_3 (by decide) ?_
        refine lv_iconst (v := 0) hx hb dX5_isHarmful_23 (by decide) ?_
        exact r_retZ C hr hlk rfl hM (⟨rfl, rfl, rfl, by decide⟩) dX5_isHarmful_24
      | some qv1 =>
        have kqv1 : mK S qv1 = 6 := ko qv1 rfl
        refine lv_ifnull hx hb dX5_isHarmful_3 ?_
        refine lv_aload_n hx hb dX5_isHarmful_6 rfl (lv_at hl 0 rfl) ?_
        refine r_get (ci := 5) (k := 14) (v := .int (mI S 514 qv1)) C hM kqv1 f_X5_32 rfl dX5_isHarmful_7 ?_
        refine lv_topi (fun xv2 exv2 => ?_)
        refine lv_if_eq (tgt := 15) hx hb dX5_isHarmful_10 (by decide) (fun cv3 => ?_) (fun cv3 => ?_)
        · have tcv3 := eqT cv3
          refine lv_aload_n hx hb dX5_isHarmful_15 rfl (lv_at hl 0 rfl) ?_
          refine r_get (ci := 5) (k := 3) C hM kqv1 f_X5_49 rfl dX5_isHarmful_16 ?_
          obtain ⟨rv4, erv4, krv4⟩ : ∃ r : Option Nat, mR S 503 qv1 = r ∧ ∀ q, r = some q → mK S q = 6 := ⟨_, rfl, TI.opt hI.1 (ci := 5) (k := 3) kqv1⟩
          refine W.eq (g2 := F0 m 19 ls [va_rf rv4]) (by rw [← erv4]; rfl) ?_
          refine lv_astore_nQ (lv' := [(1, va_rf rv4)]) hx hb dX5_isHarmful_19 rfl hl (by decide) rfl (fun ls hl => ?_)
          refine lv_goto (tgt := 2) hx hb dX5_isHarmful_20 (by decide) ?_
          have h91 := cm503 hI kqv1; rw [erv4] at h91
          exact ih2 rv4 _ _ _ ((krv4)) (by omega) (lv_sub hl [0] rfl) hM
        · have tcv3 := eqF cv3
          refine lv_iconst (v := 1) hx hb dX5_isHarmful_13 (by decide) ?_
          exact r_retZ C hr hlk rfl hM (⟨rfl, rfl, rfl, by decide⟩) dX5_isHarmful_14
  exact loop2 ((cm S h0) + 1) (some h0) _ _ _ (fun z h => by cases h; exact kh0) (by omega) (lv_sub hl [0] rfl) hM
set_option maxHeartbeats 4000000 in
set_option maxRecDepth 100000 in
theorem c_X5_hasTextOf (l : Launch) (D : gD) (H0 : gB) (S : Mem) (kc ns : Nat) (h0 h1 : Nat) {u : Nat} {tl : Int} {rho : Nat × Nat} (hI : CI x0 u tl rho S) (kh0 : mK S h0 = 6) (kh1 : mK S h1 = 6) : Met l yX5_hasTextOf (wsU yX5_hasTextOf cX5_hasTextOf 2 (some .boolean)) ({ frames := 0, cells := 0, slots := 0, locals := 0 } : Room) (mP D H0 S kc ns [.ref h0, .ref h1]) (mQ D H0 gI (fun r S1 k1 n1 => S = S1 ∧ kc = k1 ∧ ns = n1 ∧ (r = 0 ∨ r = 1))) 0 0 (mF H0) := by
  refine r_met (own := RX5) (by decide +kernel) rfl (Nat.le_of_ble_eq_true rfl) ?_
  intro p e s m args below meth c C hr hlk hnm H ls hl hM
  obtain ⟨hx, hb, hml, hown, hts, -, -⟩ := id C
  have hl : lv_has ls 2 [(0, .ref h0), (1, .ref h1)] := hl
  have t_0 : (0 : Int32).toInt = 0 := by decide
  have t_1 : (1 : Int32).toInt = 1 := by decide
  refine lv_aload_n hx hb dX5_hasTextOf_0 rfl (lv_at hl 0 rfl) ?_
  refine r_get (ci := 5) (k := 13) (v := .int (mI S 513 h0)) C hM kh0 f_X5_29 rfl dX5_hasTextOf_1 ?_
  refine lv_topi (fun xv1 exv1 => ?_)
  refine lv_aload_n hx hb dX5_hasTextOf_4 rfl (lv_at hl 1 rfl) ?_
  refine r_get (ci := 5) (k := 13) (v := .int (mI S 513 h1)) C hM kh1 f_X5_29 rfl dX5_hasTextOf_5 ?_
  refine lv_topi (fun xv2 exv2 => ?_)
  refine lv_icmp_ne (tgt := 39) hx hb dX5_hasTextOf_8 (by decide) (fun cv3 => ?_) (fun cv3 => ?_)
  · have tcv3 := eqF cv3
    refine lv_iconst (v := 0) hx hb dX5_hasTextOf_39 (by decide) ?_
    exact r_retZ C hr hlk rfl hM (⟨rfl, rfl, rfl, by decide⟩) dX5_hasTextOf_40
  · have tcv3 := eqT cv3
    refine lv_aload_n hx hb dX5_hasTextOf_11 rfl (lv_at hl 0 rfl) ?_
    refine r_get (ci := 5) (k := 11) (v := .long (mL S 511 h0)) C hM kh0 f_X5_23 rfl dX5_hasTextOf_12 ?_
    refine lv_topl (fun lv4 elv4 => ?_)
    refine lv_aload_n hx hb dX5_hasTextOf_15 rfl (lv_at hl 1 rfl) ?_
    refine r_get (ci := 5) (k := 11) (v := .long (mL S 511 h1)) C hM kh1 f_X5_23 rfl dX5_hasTextOf_16 ?_
    refine lv_topl (fun lv5 elv5 => ?_)
    refine W.lcmp hx hb dX5_hasTextOf_19 ?_
    refine lv_topi (fun xv6 exv6 => ?_)
    refine lv_if_ne (tgt := 39) hx hb dX5_hasTextOf_20 (by decide) (fun cv7 => ?_) (fun cv7 => ?_)
    · have tcv7 := eqF cv7
      refine lv_iconst (v := 0) hx hb dX5_hasTextOf_39 (by decide) ?_
      exact r_retZ C hr hlk rfl hM (⟨rfl, rfl, rfl, by decide⟩) dX5_hasTextOf_40
    · have tcv7 := eqT cv7
      refine lv_aload_n hx hb dX5_hasTextOf_23 rfl (lv_at hl 0 rfl) ?_
      refine r_get (ci := 5) (k := 12) (v := .long (mL S 512 h0)) C hM kh0 f_X5_26 rfl dX5_hasTextOf_24 ?_
      refine lv_topl (fun lv8 elv8 => ?_)
      refine lv_aload_n hx hb dX5_hasTextOf_27 rfl (lv_at hl 1 rfl) ?_
      refine r_get (ci := 5) (k := 12) (v := .long (mL S 512 h1)) C hM kh1 f_X5_26 rfl dX5_hasTextOf_28 ?_
      refine lv_topl (fun lv9 elv9 => ?_)
      refine W.lcmp hx hb dX5_hasTextOf_31 ?_
      refine lv_topi (fun xv10 exv10 => ?_)
      refine lv_if_ne (tgt := 39) hx hb dX5_hasTextOf_32 (by decide) (fun cv11 => ?_) (fun cv11 => ?_)
      · have tcv11 := eqF cv11
        refine lv_iconst (v := 0) hx hb dX5_hasTextOf_39 (by decide) ?_
        exact r_retZ C hr hlk rfl hM (⟨rfl, rfl, rfl, by decide⟩) dX5_hasTextOf_40
      · have tcv11 := eqT cv11
        refine lv_iconst (v := 1) hx hb dX5_hasTextOf_35 (by decide) ?_
        refine lv_goto (tgt := 40) hx hb dX5_hasTextOf_36 (by decide) ?_
        exact r_retZ C hr hlk rfl hM (⟨rfl, rfl, rfl, by decide⟩) dX5_hasTextOf_40
set_option maxHeartbeats 4000000 in
set_option maxRecDepth 100000 in
theorem c_X5_hasPathOf (l : Launch) (D : gD) (H0 : gB) (S : Mem) (kc ns : Nat) (h0 h1 : Nat) (i0 i1 : Int32) {u : Nat} {tl : Int} {rho : Nat × Nat} (hI : CI x0 u tl rho S) (kh0 : mK S h0 = 6) (kh1 : mK S h1 = 6) : Met l yX5_hasPathOf (wsU yX5_hasPathOf cX5_hasPathOf 7 (some .boolean)) ({ frames := 0, cells := 0, slots := 0, locals := 0 } : Room) (mP D H0 S kc ns [.ref h0, .ref h1, .int i0, .int i1]) (mQ D H0 gI (fun r S1 k1 n1 => S = S1 ∧ kc = k1 ∧ ns = n1 ∧ (r = 0 ∨ r = 1))) 0 0 (mF H0) := by
  refine r_met (own := RX5) (by decide +kernel) rfl (Nat.le_of_ble_eq_true rfl) ?_
  intro p e s m args below meth c C hr hlk hnm H ls hl hM
  obtain ⟨hx, hb, hml, hown, hts, -, -⟩ := id C
  have hl : lv_has ls 7 [(0, .ref h0), (1, .ref h1), (2, .int i0), (3, .int i1)] := hl
  have t_0 : (0 : Int32).toInt = 0 := by decide
  have t_1 : (1 : Int32).toInt = 1 := by decide
  refine lv_aload_n hx hb dX5_hasPathOf_0 rfl (lv_at hl 0 rfl) ?_
  refine lv_astore (lv' := [(4, .ref h0), (0, .ref h0), (1, .ref h1), (2, .int i0), (3, .int i1)]) hx hb dX5_hasPathOf_1 hl (by decide) rfl (fun ls hl => ?_)
  refine lv_aload_n hx hb dX5_hasPathOf_3 rfl (lv_at hl 2 rfl) ?_
  refine lv_astore (lv' := [(5, .ref h1), (4, .ref h0), (0, .ref h0), (1, .ref h1), (2, .int i0), (3, .int i1)]) hx hb dX5_hasPathOf_4 hl (by decide) rfl (fun ls hl => ?_)
  have loop6 : ∀ (fu : Nat) (o2 : Option Nat) (o : Option Nat) (H : Heap) (locs : List Loc) (ls : Array Slot), (∀ q, o = some q → mK S q = 6) → (∀ q, o2 = some q → mK S q = 6) → cm S o < fu → lv_has ls 7 [(2, .int i0), (3, .int i1), (4, va_rf o), (5, va_rf o2)] → mH D H0 S kc ns H locs → W p l e ({ frames := 0, cells := 0, slots := 0, locals := 0 } : Room) s m args below meth c H locs 0 0 (MQ below (mQ D H0 gI (fun r S1 k1 n1 => S = S1 ∧ kc = k1 ∧ ns = n1 ∧ (r = 0 ∨ r = 1))) args s 0 0 (mF H0)) (F0 m 6 ls []) := by
    intro fu
    induction fu with
    | zero => intro o2 o H locs ls h6_0 h6_1 hfu; exact absurd hfu (by omega)
    | succ fu ih6 =>
      intro o2 o H locs ls h6_0 h6_1 hfu hl hM
      have ko := h6_0
      have ko2 := h6_1
      refine lv_aloadQ hx hb dX5_hasPathOf_6 (lv_at hl 2 rfl) ?_
      cases o with
      | none =>
        refine lv_ifnullN (tgt := 79) hx hb dX5_hasPathOf_8 (by decide) ?_
        refine lv_aloadN hx hb dX5_hasPathOf_79 (lv_at hl 2 rfl) ?_
        refine lv_ifnonnullN hx hb dX5_hasPathOf_81 ?_
        refine lv_aloadQ hx hb dX5_hasPathOf_84 (lv_at hl 3 rfl) ?_
        cases o2 with
        | none =>
          refine lv_ifnonnullN hx hb dX5_hasPathOf_86 ?_
          refine lv_iconst (v := 1) hx hb dX5_hasPathOf_89 (by decide) ?_
          refine lv_goto (tgt := 94) hx hb dX5_hasPathOf_90 (by decide) ?_
          exact r_retZ C hr hlk rfl hM (⟨rfl, rfl, rfl, by decide⟩) dX5_hasPathOf_94
        | some qv2 =>
          have kqv2 : mK S qv2 = 6 := ko2 qv2 rfl
          refine lv_ifnonnull (tgt := 93) hx hb dX5_hasPathOf_86 (by decide) ?_
          refine lv_iconst (v := 0) hx hb dX5_hasPathOf_93 (by decide) ?_
          exact r_retZ C hr hlk rfl hM (⟨rfl, rfl, rfl, by decide⟩) dX5_hasPathOf_94
      | some qv1 =>
        have kqv1 : mK S qv1 = 6 := ko qv1 rfl
        refine lv_ifnull hx hb dX5_hasPathOf_8 ?_
        refine lv_aloadQ hx hb dX5_hasPathOf_11 (lv_at hl 3 rfl) ?_
        cases o2 with
        | none =>
          refine lv_ifnullN (tgt := 79) hx hb dX5_hasPathOf_13 (by decide) ?_
          refine lv_aload hx hb dX5_hasPathOf_79 (lv_at hl 2 rfl) ?_
          refine lv_ifnonnull (tgt := 93) hx hb dX5_hasPathOf_81 (by decide) ?_
          refine lv_iconst (v := 0) hx hb dX5_hasPathOf_93 (by decide) ?_
          exact r_retZ C hr hlk rfl hM (⟨rfl, rfl, rfl, by decide⟩) dX5_hasPathOf_94
        | some qv3 =>
          have kqv3 : mK S qv3 = 6 := ko2 qv3 rfl
          refine lv_ifnull hx hb dX5_hasPathOf_13 ?_
          refine lv_aload hx hb dX5_hasPathOf_16 (lv_at hl 3 rfl) ?_
          refine r_get (ci := 5) (k := 7) (v := .int (mI S 507 qv3)) C hM kqv3 f_X5_81 rfl dX5_hasPathOf_18 ?_
          refine lv_topi (fun xv4 exv4 => ?_)
          refine lv_iload_n hx hb dX5_hasPathOf_21 rfl (lv_at hl 0 rfl) ?_
          refine lv_icmp_ne (tgt := 29) hx hb dX5_hasPathOf_22 (by decide) (fun cv5 => ?_) (fun cv5 => ?_)
          · have tcv5 := eqF cv5
            refine lv_aload hx hb dX5_hasPathOf_29 (lv_at hl 3 rfl) ?_
            refine r_get (ci := 5) (k := 6) (v := .int (mI S 506 qv3)) C hM kqv3 f_X5_78 rfl dX5_hasPathOf_31 ?_
            refine lv_topi (fun xv6 exv6 => ?_)
            refine lv_istore (lv' := [(6, .int xv6), (2, .int i0), (3, .int i1), (4, .ref qv1), (5, .ref qv3)]) hx hb dX5_hasPathOf_34 hl (by decide) rfl (fun ls hl => ?_)
            refine lv_aload hx hb dX5_hasPathOf_36 (lv_at hl 3 rfl) ?_
            refine r_get (ci := 5) (k := 2) (v := .long (mL S 502 qv1)) C hM kqv1 f_X5_46 rfl dX5_hasPathOf_38 ?_
            refine lv_topl (fun lv7 elv7 => ?_)
            refine lv_aload hx hb dX5_hasPathOf_41 (lv_at hl 4 rfl) ?_
            refine r_get (ci := 5) (k := 2) (v := .long (mL S 502 qv3)) C hM kqv3 f_X5_46 rfl dX5_hasPathOf_43 ?_
            refine lv_topl (fun lv8 elv8 => ?_)
            refine W.lcmp hx hb dX5_hasPathOf_46 ?_
            refine lv_topi (fun xv9 exv9 => ?_)
            refine lv_if_ne (tgt := 60) hx hb dX5_hasPathOf_47 (by decide) (fun cv10 => ?_) (fun cv10 => ?_)
            · have tcv10 := eqF cv10
              refine lv_iconst (v := 0) hx hb dX5_hasPathOf_60 (by decide) ?_
              exact r_retZ C hr hlk rfl hM (⟨rfl, rfl, rfl, by decide⟩) dX5_hasPathOf_61
            · have tcv10 := eqT cv10
              refine lv_aload hx hb dX5_hasPathOf_50 (lv_at hl 3 rfl) ?_
              refine r_get (ci := 5) (k := 6) (v := .int (mI S 506 qv1)) C hM kqv1 f_X5_78 rfl dX5_hasPathOf_52 ?_
              refine lv_topi (fun xv11 exv11 => ?_)
              refine lv_iload hx hb dX5_hasPathOf_55 (lv_at hl 0 rfl) ?_
              refine lv_icmp_eq (tgt := 62) hx hb dX5_hasPathOf_57 (by decide) (fun cv12 => ?_) (fun cv12 => ?_)
              · have tcv12 := eqT cv12
                refine lv_aload hx hb dX5_hasPathOf_62 (lv_at hl 3 rfl) ?_
                refine r_get (ci := 5) (k := 3) C hM kqv1 f_X5_49 rfl dX5_hasPathOf_64 ?_
                obtain ⟨rv13, erv13, krv13⟩ : ∃ r : Option Nat, mR S 503 qv1 = r ∧ ∀ q, r = some q → mK S q = 6 := ⟨_, rfl, TI.opt hI.1 (ci := 5) (k := 3) kqv1⟩
                refine W.eq (g2 := F0 m 67 ls [va_rf rv13]) (by rw [← erv13]; rfl) ?_
                refine lv_astoreQ (lv' := [(4, va_rf rv13), (6, .int xv6), (2, .int i0), (3, .int i1), (5, .ref qv3)]) hx hb dX5_hasPathOf_67 hl (by decide) rfl (fun ls hl => ?_)
                refine lv_aload hx hb dX5_hasPathOf_69 (lv_at hl 4 rfl) ?_
                refine r_get (ci := 5) (k := 3) C hM kqv3 f_X5_49 rfl dX5_hasPathOf_71 ?_
                obtain ⟨rv14, erv14, krv14⟩ : ∃ r : Option Nat, mR S 503 qv3 = r ∧ ∀ q, r = some q → mK S q = 6 := ⟨_, rfl, TI.opt hI.1 (ci := 5) (k := 3) kqv3⟩
                refine W.eq (g2 := F0 m 74 ls [va_rf rv14]) (by rw [← erv14]; rfl) ?_
                refine lv_astoreQ (lv' := [(5, va_rf rv14), (4, va_rf rv13), (6, .int xv6), (2, .int i0), (3, .int i1)]) hx hb dX5_hasPathOf_74 hl (by decide) (by simp [cat_rf, cat_i, cat_l, cat_a, cat_n]) (fun ls hl => ?_)
                refine lv_goto (tgt := 6) hx hb dX5_hasPathOf_76 (by decide) ?_
                have h94 := cm503 hI kqv1; rw [erv13] at h94
                exact ih6 rv14 rv13 _ _ _ ((krv13)) ((krv14)) (by omega) (lv_sub hl [3, 4, 1, 0] rfl) hM
              · have tcv12 := eqF cv12
                refine lv_iconst (v := 0) hx hb dX5_hasPathOf_60 (by decide) ?_
                exact r_retZ C hr hlk rfl hM (⟨rfl, rfl, rfl, by decide⟩) dX5_hasPathOf_61
          · have tcv5 := eqT cv5
            refine lv_iload_n hx hb dX5_hasPathOf_25 rfl (lv_at hl 1 rfl) ?_
            refine lv_goto (tgt := 34) hx hb dX5_hasPathOf_26 (by decide) ?_
            refine lv_istore (lv' := [(6, .int i1), (2, .int i0), (3, .int i1), (4, .ref qv1), (5, .ref qv3)]) hx hb dX5_hasPathOf_34 hl (by decide) rfl (fun ls hl => ?_)
            refine lv_aload hx hb dX5_hasPathOf_36 (lv_at hl 3 rfl) ?_
            refine r_get (ci := 5) (k := 2) (v := .long (mL S 502 qv1)) C hM kqv1 f_X5_46 rfl dX5_hasPathOf_38 ?_
            refine lv_topl (fun lv15 elv15 => ?_)
            refine lv_aload hx hb dX5_hasPathOf_41 (lv_at hl 4 rfl) ?_
            refine r_get (ci := 5) (k := 2) (v := .long (mL S 502 qv3)) C hM kqv3 f_X5_46 rfl dX5_hasPathOf_43 ?_
            refine lv_topl (fun lv16 elv16 => ?_)
            refine W.lcmp hx hb dX5_hasPathOf_46 ?_
            refine lv_topi (fun xv17 exv17 => ?_)
            refine lv_if_ne (tgt := 60) hx hb dX5_hasPathOf_47 (by decide) (fun cv18 => ?_) (fun cv18 => ?_)
            · have tcv18 := eqF cv18
              refine lv_iconst (v := 0) hx hb dX5_hasPathOf_60 (by decide) ?_
              exact r_retZ C hr hlk rfl hM (⟨rfl, rfl, rfl, by decide⟩) dX5_hasPathOf_61
            · have tcv18 := eqT cv18
              refine lv_aload hx hb dX5_hasPathOf_50 (lv_at hl 3 rfl) ?_
              refine r_get (ci := 5) (k := 6) (v := .int (mI S 506 qv1)) C hM kqv1 f_X5_78 rfl dX5_hasPathOf_52 ?_
              refine lv_topi (fun xv19 exv19 => ?_)
              refine lv_iload hx hb dX5_hasPathOf_55 (lv_at hl 0 rfl) ?_
              refine lv_icmp_eq (tgt := 62) hx hb dX5_hasPathOf_57 (by decide) (fun cv20 => ?_) (fun cv20 => ?_)
              · have tcv20 := eqT cv20
                refine lv_aload hx hb dX5_hasPathOf_62 (lv_at hl 3 rfl) ?_
                refine r_get (ci := 5) (k := 3) C hM kqv1 f_X5_49 rfl dX5_hasPathOf_64 ?_
                obtain ⟨rv21, erv21, krv21⟩ : ∃ r : Option Nat, mR S 503 qv1 = r ∧ ∀ q, r = some q → mK S q = 6 := ⟨_, rfl, TI.opt hI.1 (ci := 5) (k := 3) kqv1⟩
                refine W.eq (g2 := F0 m 67 ls [va_rf rv21]) (by rw [← erv21]; rfl) ?_
                refine lv_astoreQ (lv' := [(4, va_rf rv21), (6, .int i1), (2, .int i0), (3, .int i1), (5, .ref qv3)]) hx hb dX5_hasPathOf_67 hl (by decide) rfl (fun ls hl => ?_)
                refine lv_aload hx hb dX5_hasPathOf_69 (lv_at hl 4 rfl) ?_
                refine r_get (ci := 5) (k := 3) C hM kqv3 f_X5_49 rfl dX5_hasPathOf_71 ?_
                obtain ⟨rv22, erv22, krv22⟩ : ∃ r : Option Nat, mR S 503 qv3 = r ∧ ∀ q, r = some q → mK S q = 6 := ⟨_, rfl, TI.opt hI.1 (ci := 5) (k := 3) kqv3⟩
                refine W.eq (g2 := F0 m 74 ls [va_rf rv22]) (by rw [← erv22]; rfl) ?_
                refine lv_astoreQ (lv' := [(5, va_rf rv22), (4, va_rf rv21), (6, .int i1), (2, .int i0), (3, .int i1)]) hx hb dX5_hasPathOf_74 hl (by decide) (by simp [cat_rf, cat_i, cat_l, cat_a, cat_n]) (fun ls hl => ?_)
                refine lv_goto (tgt := 6) hx hb dX5_hasPathOf_76 (by decide) ?_
                have h94 := cm503 hI kqv1; rw [erv21] at h94
                exact ih6 rv22 rv21 _ _ _ ((krv21)) ((krv22)) (by omega) (lv_sub hl [3, 4, 1, 0] rfl) hM
              · have tcv20 := eqF cv20
                refine lv_iconst (v := 0) hx hb dX5_hasPathOf_60 (by decide) ?_
                exact r_retZ C hr hlk rfl hM (⟨rfl, rfl, rfl, by decide⟩) dX5_hasPathOf_61
  exact loop6 ((cm S h0) + 1) (some h1) (some h0) _ _ _ (fun z h => by cases h; exact kh0) (fun z h => by cases h; exact kh1) (by omega) (lv_sub hl [4, 5, 1, 0] rfl) hM
set_option maxHeartbeats 4000000 in
set_option maxRecDepth 100000 in
theorem c_X5_kindOf (l : Launch) (D : gD) (H0 : gB) (S : Mem) (kc ns : Nat) (o0 : Option Nat) {u : Nat} {tl : Int} {rho : Nat × Nat} (hI : CI x0 u tl rho S) (ko0 : ∀ q, o0 = some q → mK S q = 6) : Met l yX5_kindOf (wsU yX5_kindOf cX5_kindOf 1 (some .long)) ({ frames := 0, cells := 0, slots := 0, locals := 0 } : Room) (mP D H0 S kc ns [va_rf o0]) (mQ D H0 gL (fun r S1 k1 n1 => S = S1 ∧ kc = k1 ∧ ns = n1 ∧ True)) 0 0 (mF H0) := by
  refine r_met (own := RX5) (by decide +kernel) rfl (by simp [lg_sl, cat_rf, cat_i, cat_l, cat_a, cat_n]) ?_
  intro p e s m args below meth c C hr hlk hnm H ls hl hM
  obtain ⟨hx, hb, hml, hown, hts, -, -⟩ := id C
  have hl : lv_has ls 1 [(0, va_rf o0)] := by simpa [lv_args, cat_rf, cat_i, cat_l, cat_a, cat_n] using hl
  have t_0 : (0 : Int32).toInt = 0 := by decide
  refine lv_aload_nQ hx hb dX5_kindOf_0 rfl (lv_at hl 0 rfl) ?_
  cases o0 with
  | none =>
    refine lv_ifnonnullN hx hb dX5_kindOf_1 ?_
    refine lv_lconst (v := 0) hx hb dX5_kindOf_4 (by decide) ?_
    refine lv_goto (tgt := 12) hx hb dX5_kindOf_5 (by decide) ?_
    exact r_retL C hr hlk hM (⟨rfl, rfl, rfl, trivial⟩) dX5_kindOf_12
  | some qv1 =>
    have kqv1 : mK S qv1 = 6 := ko0 qv1 rfl
    refine lv_ifnonnull (tgt := 8) hx hb dX5_kindOf_1 (by decide) ?_
    refine lv_aload_n hx hb dX5_kindOf_8 rfl (lv_at hl 0 rfl) ?_
    refine r_get (ci := 5) (k := 2) (v := .long (mL S 502 qv1)) C hM kqv1 f_X5_46 rfl dX5_kindOf_9 ?_
    refine lv_topl (fun lv2 elv2 => ?_)
    exact r_retL C hr hlk hM (⟨rfl, rfl, rfl, trivial⟩) dX5_kindOf_12
set_option maxHeartbeats 4000000 in
set_option maxRecDepth 100000 in
theorem c_X5_nameOf (l : Launch) (D : gD) (H0 : gB) (S : Mem) (kc ns : Nat) (o0 : Option Nat) {u : Nat} {tl : Int} {rho : Nat × Nat} (hI : CI x0 u tl rho S) (ko0 : ∀ q, o0 = some q → mK S q = 6) : Met l yX5_nameOf (wsU yX5_nameOf cX5_nameOf 1 (some .long)) ({ frames := 0, cells := 0, slots := 0, locals := 0 } : Room) (mP D H0 S kc ns [va_rf o0]) (mQ D H0 gL (fun r S1 k1 n1 => S = S1 ∧ kc = k1 ∧ ns = n1 ∧ True)) 0 0 (mF H0) := by
  refine r_met (own := RX5) (by decide +kernel) rfl (by simp [lg_sl, cat_rf, cat_i, cat_l, cat_a, cat_n]) ?_
  intro p e s m args below meth c C hr hlk hnm H ls hl hM
  obtain ⟨hx, hb, hml, hown, hts, -, -⟩ := id C
  have hl : lv_has ls 1 [(0, va_rf o0)] := by simpa [lv_args, cat_rf, cat_i, cat_l, cat_a, cat_n] using hl
  have t_0 : (0 : Int32).toInt = 0 := by decide
  refine lv_aload_nQ hx hb dX5_nameOf_0 rfl (lv_at hl 0 rfl) ?_
  cases o0 with
  | none =>
    refine lv_ifnonnullN hx hb dX5_nameOf_1 ?_
    refine lv_lconst (v := 0) hx hb dX5_nameOf_4 (by decide) ?_
    refine lv_goto (tgt := 12) hx hb dX5_nameOf_5 (by decide) ?_
    exact r_retL C hr hlk hM (⟨rfl, rfl, rfl, trivial⟩) dX5_nameOf_12
  | some qv1 =>
    have kqv1 : mK S qv1 = 6 := ko0 qv1 rfl
    refine lv_ifnonnull (tgt := 8) hx hb dX5_nameOf_1 (by decide) ?_
    refine lv_aload_n hx hb dX5_nameOf_8 rfl (lv_at hl 0 rfl) ?_
    refine r_get (ci := 5) (k := 10) (v := .long (mL S 510 qv1)) C hM kqv1 f_X5_19 rfl dX5_nameOf_9 ?_
    refine lv_topl (fun lv2 elv2 => ?_)
    exact r_retL C hr hlk hM (⟨rfl, rfl, rfl, trivial⟩) dX5_nameOf_12
set_option maxHeartbeats 4000000 in
set_option maxRecDepth 100000 in
theorem c_X5_sameLabel (l : Launch) (D : gD) (H0 : gB) (S : Mem) (kc ns : Nat) (o0 o1 : Option Nat) {u : Nat} {tl : Int} {rho : Nat × Nat} (hI : CI x0 u tl rho S) (ko0 : ∀ q, o0 = some q → mK S q = 6) (ko1 : ∀ q, o1 = some q → mK S q = 6) : Met l yX5_sameLabel (wsU yX5_sameLabel cX5_sameLabel 2 (some .boolean)) ({ frames := 1, cells := 0, slots := 0, locals := 21 } : Room) (mP D H0 S kc ns [va_rf o0, va_rf o1]) (mQ D H0 gI (fun r S1 k1 n1 => S = S1 ∧ kc = k1 ∧ ns = n1 ∧ (r = 0 ∨ r = 1))) 0 0 (mF H0) := by
  refine r_met (own := RX5) (by decide +kernel) rfl (by simp [lg_sl, cat_rf, cat_i, cat_l, cat_a, cat_n]) ?_
  intro p e s m args below meth c C hr hlk hnm H ls hl hM
  obtain ⟨hx, hb, hml, hown, hts, -, -⟩ := id C
  have hl : lv_has ls 2 [(0, va_rf o0), (1, va_rf o1)] := by simpa [lv_args, cat_rf, cat_i, cat_l, cat_a, cat_n] using hl
  have t_0 : (0 : Int32).toInt = 0 := by decide
  have t_1 : (1 : Int32).toInt = 1 := by decide
  refine lv_aload_nQ hx hb dX5_sameLabel_0 rfl (lv_at hl 0 rfl) ?_
  cases o0 with
  | none =>
    refine lv_ifnullN (tgt := 8) hx hb dX5_sameLabel_1 (by decide) ?_
    refine lv_aload_nN hx hb dX5_sameLabel_8 rfl (lv_at hl 0 rfl) ?_
    refine lv_aload_nQ hx hb dX5_sameLabel_9 rfl (lv_at hl 1 rfl) ?_
    refine lv_acmp_ne (rx := none) (ry := o1) (tgt := 17) hx hb dX5_sameLabel_10 (by decide) (fun cv2 => ?_) (fun cv2 => ?_)
    · have tcv2 := trivial
      refine lv_iconst (v := 0) hx hb dX5_sameLabel_17 (by decide) ?_
      refine lv_goto (tgt := 26) hx hb dX5_sameLabel_18 (by decide) ?_
      exact r_retZ C hr hlk rfl hM (⟨rfl, rfl, rfl, by decide⟩) dX5_sameLabel_26
    · have tcv2 := trivial
      refine lv_iconst (v := 1) hx hb dX5_sameLabel_13 (by decide) ?_
      refine lv_goto (tgt := 26) hx hb dX5_sameLabel_14 (by decide) ?_
      exact r_retZ C hr hlk rfl hM (⟨rfl, rfl, rfl, by decide⟩) dX5_sameLabel_26
  | some qv1 =>
    have kqv1 : mK S qv1 = 6 := ko0 qv1 rfl
    refine lv_ifnull hx hb dX5_sameLabel_1 ?_
    refine lv_aload_nQ hx hb dX5_sameLabel_4 rfl (lv_at hl 1 rfl) ?_
    cases o1 with
    | none =>
      refine lv_ifnonnullN hx hb dX5_sameLabel_5 ?_
      refine lv_aload_n hx hb dX5_sameLabel_8 rfl (lv_at hl 0 rfl) ?_
      refine lv_aload_nN hx hb dX5_sameLabel_9 rfl (lv_at hl 1 rfl) ?_
      refine lv_acmp_ne (rx := some qv1) (ry := none) (tgt := 17) hx hb dX5_sameLabel_10 (by decide) (fun cv4 => ?_) (fun cv4 => ?_)
      · have tcv4 := trivial
        refine lv_iconst (v := 0) hx hb dX5_sameLabel_17 (by decide) ?_
        refine lv_goto (tgt := 26) hx hb dX5_sameLabel_18 (by decide) ?_
        exact r_retZ C hr hlk rfl hM (⟨rfl, rfl, rfl, by decide⟩) dX5_sameLabel_26
      · have tcv4 := trivial
        refine lv_iconst (v := 1) hx hb dX5_sameLabel_13 (by decide) ?_
        refine lv_goto (tgt := 26) hx hb dX5_sameLabel_14 (by decide) ?_
        exact r_retZ C hr hlk rfl hM (⟨rfl, rfl, rfl, by decide⟩) dX5_sameLabel_26
    | some qv3 =>
      have kqv3 : mK S qv3 = 6 := ko1 qv3 rfl
      refine lv_ifnonnull (tgt := 21) hx hb dX5_sameLabel_5 (by decide) ?_
      refine lv_aload_n hx hb dX5_sameLabel_21 rfl (lv_at hl 0 rfl) ?_
      refine lv_aload_n hx hb dX5_sameLabel_22 rfl (lv_at hl 1 rfl) ?_
      refine r_V (As := [.ref qv3]) (rest := []) (ci := 5) C hM (c_X5_hasTextOf l D H0 S kc ns qv1 qv3 hI kqv1 kqv3) i_X5_hasTextOf m_X5_88 kqv1 rfl rfl rfl hl.1 rfl (Nat.le_of_ble_eq_true rfl) ⟨by decide, by decide⟩ ⟨by decide, by decide⟩ dX5_sameLabel_23 (fun xv8 Sv5 kv6 nv7 H locs pv9 hM => ?_)
      obtain ⟨rfl, rfl, rfl, hxv8⟩ := pv9
      refine W.eq (g2 := F0 m 26 ls [.int xv8]) rfl ?_
      exact r_retZ C hr hlk (nzb hxv8) hM (⟨rfl, rfl, rfl, hxv8⟩) dX5_sameLabel_26
set_option maxHeartbeats 4000000 in
set_option maxRecDepth 100000 in
theorem c_X5_marksSharedWith (l : Launch) (D : gD) (H0 : gB) (S : Mem) (kc ns : Nat) (h0 h1 : Nat) {u : Nat} {tl : Int} {rho : Nat × Nat} (hI : CI x0 u tl rho S) (kh0 : mK S h0 = 6) (kh1 : mK S h1 = 6) : Met l yX5_marksSharedWith (wsU yX5_marksSharedWith cX5_marksSharedWith 3 (some .int)) ({ frames := 2, cells := 0, slots := 0, locals := 42 } : Room) (mP D H0 S kc ns [.ref h0, .ref h1]) (mQ D H0 gI (fun r S1 k1 n1 => S = S1 ∧ kc = k1 ∧ ns = n1 ∧ True)) 0 0 (mF H0) := by
  refine r_met (own := RX5) (by decide +kernel) rfl (Nat.le_of_ble_eq_true rfl) ?_
  intro p e s m args below meth c C hr hlk hnm H ls hl hM
  obtain ⟨hx, hb, hml, hown, hts, -, -⟩ := id C
  have hl : lv_has ls 3 [(0, .ref h0), (1, .ref h1)] := hl
  have t_m1 : (-1 : Int32).toInt = -1 := by decide
  have t_0 : (0 : Int32).toInt = 0 := by decide
  have t_1 : (1 : Int32).toInt = 1 := by decide
  have t_2 : (2 : Int32).toInt = 2 := by decide
  have t_4 : (4 : Int32).toInt = 4 := by decide
  have t_8 : (8 : Int32).toInt = 8 := by decide
  have t_16 : (16 : Int32).toInt = 16 := by decide
  have t_32 : (32 : Int32).toInt = 32 := by decide
  have t_64 : (64 : Int32).toInt = 64 := by decide
  have t_128 : (128 : Int32).toInt = 128 := by decide
  refine lv_iconst (v := 0) hx hb dX5_marksSharedWith_0 (by decide) ?_
  refine lv_istore_n (lv' := [(2, .int 0), (0, .ref h0), (1, .ref h1)]) hx hb dX5_marksSharedWith_1 rfl hl (by decide) rfl (fun ls hl => ?_)
  refine lv_iload_n hx hb dX5_marksSharedWith_2 rfl (lv_at hl 0 rfl) ?_
  refine lv_aload_n hx hb dX5_marksSharedWith_3 rfl (lv_at hl 1 rfl) ?_
  refine r_get (ci := 5) (k := 10) (v := .long (mL S 510 h0)) C hM kh0 f_X5_19 rfl dX5_marksSharedWith_4 ?_
  refine lv_topl (fun lv1 elv1 => ?_)
  refine lv_aload_n hx hb dX5_marksSharedWith_7 rfl (lv_at hl 2 rfl) ?_
  refine r_get (ci := 5) (k := 10) (v := .long (mL S 510 h1)) C hM kh1 f_X5_19 rfl dX5_marksSharedWith_8 ?_
  refine lv_topl (fun lv2 elv2 => ?_)
  refine W.lcmp hx hb dX5_marksSharedWith_11 ?_
  refine lv_topi (fun xv3 exv3 => ?_)
  have join20 : ∀ (j20 : Int32) (H : Heap) (locs : List Loc) (ls : Array Slot), lv_has ls 3 [(2, .int 0), (0, .ref h0), (1, .ref h1)] → mH D H0 S kc ns H locs → W p l e ({ frames := 2, cells := 0, slots := 0, locals := 42 } : Room) s m args below meth c H locs 0 0 (MQ below (mQ D H0 gI (fun r S1 k1 n1 => S = S1 ∧ kc = k1 ∧ ns = n1 ∧ True)) args s 0 0 (mF H0)) (F0 m 20 ls [.int j20, .int 0]) := by
    intro j20 H locs ls  hl hM
    refine lv_ior hx hb dX5_marksSharedWith_20 ?_
    refine lv_topi (fun xv4 exv4 => ?_)
    refine lv_istore_n (lv' := [(2, .int xv4), (0, .ref h0), (1, .ref h1)]) hx hb dX5_marksSharedWith_21 rfl hl (by decide) rfl (fun ls hl => ?_)
    refine lv_iload_n hx hb dX5_marksSharedWith_22 rfl (lv_at hl 0 rfl) ?_
    refine lv_aload_n hx hb dX5_marksSharedWith_23 rfl (lv_at hl 1 rfl) ?_
    refine lv_aload_n hx hb dX5_marksSharedWith_24 rfl (lv_at hl 2 rfl) ?_
    refine r_V (As := [.ref h1]) (rest := [.int xv4]) (ci := 5) C hM (c_X5_hasTextOf l D H0 S kc ns h0 h1 hI kh0 kh1) i_X5_hasTextOf m_X5_88 kh0 rfl rfl rfl hl.1 rfl (Nat.le_of_ble_eq_true rfl) ⟨by decide, by decide⟩ ⟨by decide, by decide⟩ dX5_marksSharedWith_25 (fun xv8 Sv5 kv6 nv7 H locs pv9 hM => ?_)
    obtain ⟨rfl, rfl, rfl, hxv8⟩ := pv9
    refine W.eq (g2 := F0 m 28 ls [.int xv8, .int xv4]) rfl ?_
    have join36 : ∀ (j36 : Int32) (H : Heap) (locs : List Loc) (ls : Array Slot), lv_has ls 3 [(2, .int xv4), (0, .ref h0), (1, .ref h1)] → mH D H0 S kc ns H locs → W p l e ({ frames := 2, cells := 0, slots := 0, locals := 42 } : Room) s m args below meth c H locs 0 0 (MQ below (mQ D H0 gI (fun r S1 k1 n1 => S = S1 ∧ kc = k1 ∧ ns = n1 ∧ True)) args s 0 0 (mF H0)) (F0 m 36 ls [.int j36, .int xv4]) := by
      intro j36 H locs ls  hl hM
      refine lv_ior hx hb dX5_marksSharedWith_36 ?_
      refine lv_topi (fun xv10 exv10 => ?_)
      refine lv_istore_n (lv' := [(2, .int xv10), (0, .ref h0), (1, .ref h1)]) hx hb dX5_marksSharedWith_37 rfl hl (by decide) rfl (fun ls hl => ?_)
      refine lv_iload_n hx hb dX5_marksSharedWith_38 rfl (lv_at hl 0 rfl) ?_
      refine lv_aload_n hx hb dX5_marksSharedWith_39 rfl (lv_at hl 1 rfl) ?_
      refine r_get (ci := 5) (k := 2) (v := .long (mL S 502 h0)) C hM kh0 f_X5_46 rfl dX5_marksSharedWith_40 ?_
      refine lv_topl (fun lv11 elv11 => ?_)
      refine lv_aload_n hx hb dX5_marksSharedWith_43 rfl (lv_at hl 2 rfl) ?_
      refine r_get (ci := 5) (k := 2) (v := .long (mL S 502 h1)) C hM kh1 f_X5_46 rfl dX5_marksSharedWith_44 ?_
      refine lv_topl (fun lv12 elv12 => ?_)
      refine W.lcmp hx hb dX5_marksSharedWith_47 ?_
      refine lv_topi (fun xv13 exv13 => ?_)
      have join56 : ∀ (j56 : Int32) (H : Heap) (locs : List Loc) (ls : Array Slot), lv_has ls 3 [(2, .int xv10), (0, .ref h0), (1, .ref h1)] → mH D H0 S kc ns H locs → W p l e ({ frames := 2, cells := 0, slots := 0, locals := 42 } : Room) s m args below meth c H locs 0 0 (MQ below (mQ D H0 gI (fun r S1 k1 n1 => S = S1 ∧ kc = k1 ∧ ns = n1 ∧ True)) args s 0 0 (mF H0)) (F0 m 56 ls [.int j56, .int xv10]) := by
        intro j56 H locs ls  hl hM
        refine lv_ior hx hb dX5_marksSharedWith_56 ?_
        refine lv_topi (fun xv14 exv14 => ?_)
        refine lv_istore_n (lv' := [(2, .int xv14), (0, .ref h0), (1, .ref h1)]) hx hb dX5_marksSharedWith_57 rfl hl (by decide) rfl (fun ls hl => ?_)
        refine lv_iload_n hx hb dX5_marksSharedWith_58 rfl (lv_at hl 0 rfl) ?_
        refine lv_aload_n hx hb dX5_marksSharedWith_59 rfl (lv_at hl 1 rfl) ?_
        refine r_get (ci := 5) (k := 6) (v := .int (mI S 506 h0)) C hM kh0 f_X5_78 rfl dX5_marksSharedWith_60 ?_
        refine lv_topi (fun xv15 exv15 => ?_)
        refine lv_aload_n hx hb dX5_marksSharedWith_63 rfl (lv_at hl 2 rfl) ?_
        refine r_get (ci := 5) (k := 6) (v := .int (mI S 506 h1)) C hM kh1 f_X5_78 rfl dX5_marksSharedWith_64 ?_
        refine lv_topi (fun xv16 exv16 => ?_)
        have join76 : ∀ (j76 : Int32) (H : Heap) (locs : List Loc) (ls : Array Slot), lv_has ls 3 [(2, .int xv14), (0, .ref h0), (1, .ref h1)] → mH D H0 S kc ns H locs → W p l e ({ frames := 2, cells := 0, slots := 0, locals := 42 } : Room) s m args below meth c H locs 0 0 (MQ below (mQ D H0 gI (fun r S1 k1 n1 => S = S1 ∧ kc = k1 ∧ ns = n1 ∧ True)) args s 0 0 (mF H0)) (F0 m 76 ls [.int j76, .int xv14]) := by
          intro j76 H locs ls  hl hM
          refine lv_ior hx hb dX5_marksSharedWith_76 ?_
          refine lv_topi (fun xv17 exv17 => ?_)
          refine lv_istore_n (lv' := [(2, .int xv17), (0, .ref h0), (1, .ref h1)]) hx hb dX5_marksSharedWith_77 rfl hl (by decide) rfl (fun ls hl => ?_)
          refine lv_iload_n hx hb dX5_marksSharedWith_78 rfl (lv_at hl 0 rfl) ?_
          refine lv_aload_n hx hb dX5_marksSharedWith_79 rfl (lv_at hl 1 rfl) ?_
          refine r_get (ci := 5) (k := 3) C hM kh0 f_X5_49 rfl dX5_marksSharedWith_80 ?_
          obtain ⟨rv18, erv18, krv18⟩ : ∃ r : Option Nat, mR S 503 h0 = r ∧ ∀ q, r = some q → mK S q = 6 := ⟨_, rfl, TI.opt hI.1 (ci := 5) (k := 3) kh0⟩
          refine W.eq (g2 := F0 m 83 ls [va_rf rv18, .int xv17]) (by rw [← erv18]; rfl) ?_
          refine r_S (As := [va_rf rv18]) (rest := [.int xv17]) C hM (c_X5_kindOf l D H0 S kc ns rv18 hI (krv18)) i_X5_kindOf m_X5_92 rfl hl.1 rfl (Nat.le_of_ble_eq_true rfl) ⟨by decide, by decide⟩ ⟨by decide, by decide⟩ dX5_marksSharedWith_83 (fun lv22 Sv19 kv20 nv21 H locs pv23 hM => ?_)
          obtain ⟨rfl, rfl, rfl, hlv22⟩ := pv23
          refine W.eq (g2 := F0 m 86 ls [.long lv22, .int xv17]) rfl ?_
          refine lv_aload_n hx hb dX5_marksSharedWith_86 rfl (lv_at hl 2 rfl) ?_
          refine r_get (ci := 5) (k := 3) C hM kh1 f_X5_49 rfl dX5_marksSharedWith_87 ?_
          obtain ⟨rv24, erv24, krv24⟩ : ∃ r : Option Nat, mR S 503 h1 = r ∧ ∀ q, r = some q → mK S q = 6 := ⟨_, rfl, TI.opt hI.1 (ci := 5) (k := 3) kh1⟩
          refine W.eq (g2 := F0 m 90 ls [va_rf rv24, .long lv22, .int xv17]) (by rw [← erv24]; rfl) ?_
          refine r_S (As := [va_rf rv24]) (rest := [.long lv22, .int xv17]) C hM (c_X5_kindOf l D H0 S kc ns rv24 hI (krv24)) i_X5_kindOf m_X5_92 rfl hl.1 rfl (Nat.le_of_ble_eq_true rfl) ⟨by decide, by decide⟩ ⟨by decide, by decide⟩ dX5_marksSharedWith_90 (fun lv28 Sv25 kv26 nv27 H locs pv29 hM => ?_)
          obtain ⟨rfl, rfl, rfl, hlv28⟩ := pv29
          refine W.eq (g2 := F0 m 93 ls [.long lv28, .long lv22, .int xv17]) rfl ?_
          refine W.lcmp hx hb dX5_marksSharedWith_93 ?_
          refine lv_topi (fun xv30 exv30 => ?_)
          have join103 : ∀ (j103 : Int32) (H : Heap) (locs : List Loc) (ls : Array Slot), lv_has ls 3 [(2, .int xv17), (0, .ref h0), (1, .ref h1)] → mH D H0 S kc ns H locs → W p l e ({ frames := 2, cells := 0, slots := 0, locals := 42 } : Room) s m args below meth c H locs 0 0 (MQ below (mQ D H0 gI (fun r S1 k1 n1 => S = S1 ∧ kc = k1 ∧ ns = n1 ∧ True)) args s 0 0 (mF H0)) (F0 m 103 ls [.int j103, .int xv17]) := by
            intro j103 H locs ls  hl hM
            refine lv_ior hx hb dX5_marksSharedWith_103 ?_
            refine lv_topi (fun xv31 exv31 => ?_)
            refine lv_istore_n (lv' := [(2, .int xv31), (0, .ref h0), (1, .ref h1)]) hx hb dX5_marksSharedWith_104 rfl hl (by decide) rfl (fun ls hl => ?_)
            refine lv_iload_n hx hb dX5_marksSharedWith_105 rfl (lv_at hl 0 rfl) ?_
            refine lv_aload_n hx hb dX5_marksSharedWith_106 rfl (lv_at hl 1 rfl) ?_
            refine r_get (ci := 5) (k := 3) (v := va_rf rv18) C hM kh0 f_X5_49 (congrArg va_rf (erv18)) dX5_marksSharedWith_107 ?_
            refine r_S (As := [va_rf rv18]) (rest := [.int xv31]) C hM (c_X5_nameOf l D H0 S kc ns rv18 hI (krv18)) i_X5_nameOf m_X5_96 rfl hl.1 rfl (Nat.le_of_ble_eq_true rfl) ⟨by decide, by decide⟩ ⟨by decide, by decide⟩ dX5_marksSharedWith_110 (fun lv35 Sv32 kv33 nv34 H locs pv36 hM => ?_)
            obtain ⟨rfl, rfl, rfl, hlv35⟩ := pv36
            refine W.eq (g2 := F0 m 113 ls [.long lv35, .int xv31]) rfl ?_
            refine lv_aload_n hx hb dX5_marksSharedWith_113 rfl (lv_at hl 2 rfl) ?_
            refine r_get (ci := 5) (k := 3) (v := va_rf rv24) C hM kh1 f_X5_49 (congrArg va_rf (erv24)) dX5_marksSharedWith_114 ?_
            refine r_S (As := [va_rf rv24]) (rest := [.long lv35, .int xv31]) C hM (c_X5_nameOf l D H0 S kc ns rv24 hI (krv24)) i_X5_nameOf m_X5_96 rfl hl.1 rfl (Nat.le_of_ble_eq_true rfl) ⟨by decide, by decide⟩ ⟨by decide, by decide⟩ dX5_marksSharedWith_117 (fun lv40 Sv37 kv38 nv39 H locs pv41 hM => ?_)
            obtain ⟨rfl, rfl, rfl, hlv40⟩ := pv41
            refine W.eq (g2 := F0 m 120 ls [.long lv40, .long lv35, .int xv31]) rfl ?_
            refine W.lcmp hx hb dX5_marksSharedWith_120 ?_
            refine lv_topi (fun xv42 exv42 => ?_)
            have join130 : ∀ (j130 : Int32) (H : Heap) (locs : List Loc) (ls : Array Slot), lv_has ls 3 [(2, .int xv31), (0, .ref h0), (1, .ref h1)] → mH D H0 S kc ns H locs → W p l e ({ frames := 2, cells := 0, slots := 0, locals := 42 } : Room) s m args below meth c H locs 0 0 (MQ below (mQ D H0 gI (fun r S1 k1 n1 => S = S1 ∧ kc = k1 ∧ ns = n1 ∧ True)) args s 0 0 (mF H0)) (F0 m 130 ls [.int j130, .int xv31]) := by
              intro j130 H locs ls  hl hM
              refine lv_ior hx hb dX5_marksSharedWith_130 ?_
              refine lv_topi (fun xv43 exv43 => ?_)
              refine lv_istore_n (lv' := [(2, .int xv43), (0, .ref h0), (1, .ref h1)]) hx hb dX5_marksSharedWith_131 rfl hl (by decide) rfl (fun ls hl => ?_)
              refine lv_iload_n hx hb dX5_marksSharedWith_132 rfl (lv_at hl 0 rfl) ?_
              refine lv_aload_n hx hb dX5_marksSharedWith_133 rfl (lv_at hl 1 rfl) ?_
              refine r_get (ci := 5) (k := 5) C hM kh0 f_X5_71 rfl dX5_marksSharedWith_134 ?_
              obtain ⟨rv44, erv44, krv44⟩ : ∃ r : Option Nat, mR S 505 h0 = r ∧ ∀ q, r = some q → mK S q = 6 := ⟨_, rfl, TI.opt hI.1 (ci := 5) (k := 5) kh0⟩
              refine W.eq (g2 := F0 m 137 ls [va_rf rv44, .int xv43]) (by rw [← erv44]; rfl) ?_
              refine lv_aload_n hx hb dX5_marksSharedWith_137 rfl (lv_at hl 2 rfl) ?_
              refine r_get (ci := 5) (k := 5) C hM kh1 f_X5_71 rfl dX5_marksSharedWith_138 ?_
              obtain ⟨rv45, erv45, krv45⟩ : ∃ r : Option Nat, mR S 505 h1 = r ∧ ∀ q, r = some q → mK S q = 6 := ⟨_, rfl, TI.opt hI.1 (ci := 5) (k := 5) kh1⟩
              refine W.eq (g2 := F0 m 141 ls [va_rf rv45, va_rf rv44, .int xv43]) (by rw [← erv45]; rfl) ?_
              refine r_S (As := [va_rf rv44, va_rf rv45]) (rest := [.int xv43]) C hM (c_X5_sameLabel l D H0 S kc ns rv44 rv45 hI (krv44) (krv45)) i_X5_sameLabel m_X5_99 rfl hl.1 rfl (Nat.le_of_ble_eq_true rfl) ⟨by decide, by decide⟩ ⟨by decide, by decide⟩ dX5_marksSharedWith_141 (fun xv49 Sv46 kv47 nv48 H locs pv50 hM => ?_)
              obtain ⟨rfl, rfl, rfl, hxv49⟩ := pv50
              refine W.eq (g2 := F0 m 144 ls [.int xv49, .int xv43]) rfl ?_
              have join153 : ∀ (j153 : Int32) (H : Heap) (locs : List Loc) (ls : Array Slot), lv_has ls 3 [(2, .int xv43), (0, .ref h0), (1, .ref h1)] → mH D H0 S kc ns H locs → W p l e ({ frames := 2, cells := 0, slots := 0, locals := 42 } : Room) s m args below meth c H locs 0 0 (MQ below (mQ D H0 gI (fun r S1 k1 n1 => S = S1 ∧ kc = k1 ∧ ns = n1 ∧ True)) args s 0 0 (mF H0)) (F0 m 153 ls [.int j153, .int xv43]) := by
                intro j153 H locs ls  hl hM
                refine lv_ior hx hb dX5_marksSharedWith_153 ?_
                refine lv_topi (fun xv51 exv51 => ?_)
                refine lv_istore_n (lv' := [(2, .int xv51), (0, .ref h0), (1, .ref h1)]) hx hb dX5_marksSharedWith_154 rfl hl (by decide) rfl (fun ls hl => ?_)
                refine lv_iload_n hx hb dX5_marksSharedWith_155 rfl (lv_at hl 0 rfl) ?_
                refine lv_aload_n hx hb dX5_marksSharedWith_156 rfl (lv_at hl 1 rfl) ?_
                refine lv_aload_n hx hb dX5_marksSharedWith_157 rfl (lv_at hl 2 rfl) ?_
                refine lv_iconst (v := -1) hx hb dX5_marksSharedWith_158 (by decide) ?_
                refine lv_iconst (v := 0) hx hb dX5_marksSharedWith_159 (by decide) ?_
                refine r_V (As := [.ref h1, .int (-1), .int 0]) (rest := [.int xv51]) (ci := 5) C hM (c_X5_hasPathOf l D H0 S kc ns h0 h1 (-1) 0 hI kh0 kh1) i_X5_hasPathOf m_X5_103 kh0 rfl rfl rfl hl.1 rfl (Nat.le_of_ble_eq_true rfl) ⟨by decide, by decide⟩ ⟨by decide, by decide⟩ dX5_marksSharedWith_160 (fun xv55 Sv52 kv53 nv54 H locs pv56 hM => ?_)
                obtain ⟨rfl, rfl, rfl, hxv55⟩ := pv56
                refine W.eq (g2 := F0 m 163 ls [.int xv55, .int xv51]) rfl ?_
                have join173 : ∀ (j173 : Int32) (H : Heap) (locs : List Loc) (ls : Array Slot), lv_has ls 3 [(2, .int xv51), (0, .ref h0), (1, .ref h1)] → mH D H0 S kc ns H locs → W p l e ({ frames := 2, cells := 0, slots := 0, locals := 42 } : Room) s m args below meth c H locs 0 0 (MQ below (mQ D H0 gI (fun r S1 k1 n1 => S = S1 ∧ kc = k1 ∧ ns = n1 ∧ True)) args s 0 0 (mF H0)) (F0 m 173 ls [.int j173, .int xv51]) := by
                  intro j173 H locs ls  hl hM
                  refine lv_ior hx hb dX5_marksSharedWith_173 ?_
                  refine lv_topi (fun xv57 exv57 => ?_)
                  refine lv_istore_n (lv' := [(2, .int xv57), (0, .ref h0), (1, .ref h1)]) hx hb dX5_marksSharedWith_174 rfl hl (by decide) rfl (fun ls hl => ?_)
                  refine lv_iload_n hx hb dX5_marksSharedWith_175 rfl (lv_at hl 0 rfl) ?_
                  exact r_retI C hr hlk hM (⟨rfl, rfl, rfl, trivial⟩) dX5_marksSharedWith_176
                refine lv_if_eq (tgt := 172) hx hb dX5_marksSharedWith_163 (by decide) (fun cv58 => ?_) (fun cv58 => ?_)
                · have tcv58 := eqT cv58
                  refine lv_iconst (v := 0) hx hb dX5_marksSharedWith_172 (by decide) ?_
                  exact join173 0 _ _ _  (lv_sub hl [0, 1, 2] rfl) hM
                · have tcv58 := eqF cv58
                  refine lv_sipush (v := 128) hx hb dX5_marksSharedWith_166 (by decide) ?_
                  refine lv_goto (tgt := 173) hx hb dX5_marksSharedWith_169 (by decide) ?_
                  exact join173 128 _ _ _  (lv_sub hl [0, 1, 2] rfl) hM
              refine lv_if_eq (tgt := 152) hx hb dX5_marksSharedWith_144 (by decide) (fun cv59 => ?_) (fun cv59 => ?_)
              · have tcv59 := eqT cv59
                refine lv_iconst (v := 0) hx hb dX5_marksSharedWith_152 (by decide) ?_
                exact join153 0 _ _ _  (lv_sub hl [0, 1, 2] rfl) hM
              · have tcv59 := eqF cv59
                refine lv_bipush (v := 64) hx hb dX5_marksSharedWith_147 (by decide) ?_
                refine lv_goto (tgt := 153) hx hb dX5_marksSharedWith_149 (by decide) ?_
                exact join153 64 _ _ _  (lv_sub hl [0, 1, 2] rfl) hM
            refine lv_if_ne (tgt := 129) hx hb dX5_marksSharedWith_121 (by decide) (fun cv60 => ?_) (fun cv60 => ?_)
            · have tcv60 := eqF cv60
              refine lv_iconst (v := 0) hx hb dX5_marksSharedWith_129 (by decide) ?_
              exact join130 0 _ _ _  (lv_sub hl [0, 1, 2] rfl) hM
            · have tcv60 := eqT cv60
              refine lv_bipush (v := 32) hx hb dX5_marksSharedWith_124 (by decide) ?_
              refine lv_goto (tgt := 130) hx hb dX5_marksSharedWith_126 (by decide) ?_
              exact join130 32 _ _ _  (lv_sub hl [0, 1, 2] rfl) hM
          refine lv_if_ne (tgt := 102) hx hb dX5_marksSharedWith_94 (by decide) (fun cv61 => ?_) (fun cv61 => ?_)
          · have tcv61 := eqF cv61
            refine lv_iconst (v := 0) hx hb dX5_marksSharedWith_102 (by decide) ?_
            exact join103 0 _ _ _  (lv_sub hl [0, 1, 2] rfl) hM
          · have tcv61 := eqT cv61
            refine lv_bipush (v := 16) hx hb dX5_marksSharedWith_97 (by decide) ?_
            refine lv_goto (tgt := 103) hx hb dX5_marksSharedWith_99 (by decide) ?_
            exact join103 16 _ _ _  (lv_sub hl [0, 1, 2] rfl) hM
        refine lv_icmp_ne (tgt := 75) hx hb dX5_marksSharedWith_67 (by decide) (fun cv62 => ?_) (fun cv62 => ?_)
        · have tcv62 := eqF cv62
          refine lv_iconst (v := 0) hx hb dX5_marksSharedWith_75 (by decide) ?_
          exact join76 0 _ _ _  (lv_sub hl [0, 1, 2] rfl) hM
        · have tcv62 := eqT cv62
          refine lv_bipush (v := 8) hx hb dX5_marksSharedWith_70 (by decide) ?_
          refine lv_goto (tgt := 76) hx hb dX5_marksSharedWith_72 (by decide) ?_
          exact join76 8 _ _ _  (lv_sub hl [0, 1, 2] rfl) hM
      refine lv_if_ne (tgt := 55) hx hb dX5_marksSharedWith_48 (by decide) (fun cv63 => ?_) (fun cv63 => ?_)
      · have tcv63 := eqF cv63
        refine lv_iconst (v := 0) hx hb dX5_marksSharedWith_55 (by decide) ?_
        exact join56 0 _ _ _  (lv_sub hl [0, 1, 2] rfl) hM
      · have tcv63 := eqT cv63
        refine lv_iconst (v := 4) hx hb dX5_marksSharedWith_51 (by decide) ?_
        refine lv_goto (tgt := 56) hx hb dX5_marksSharedWith_52 (by decide) ?_
        exact join56 4 _ _ _  (lv_sub hl [0, 1, 2] rfl) hM
    refine lv_if_eq (tgt := 35) hx hb dX5_marksSharedWith_28 (by decide) (fun cv64 => ?_) (fun cv64 => ?_)
    · have tcv64 := eqT cv64
      refine lv_iconst (v := 0) hx hb dX5_marksSharedWith_35 (by decide) ?_
      exact join36 0 _ _ _  (lv_sub hl [0, 1, 2] rfl) hM
    · have tcv64 := eqF cv64
      refine lv_iconst (v := 2) hx hb dX5_marksSharedWith_31 (by decide) ?_
      refine lv_goto (tgt := 36) hx hb dX5_marksSharedWith_32 (by decide) ?_
      exact join36 2 _ _ _  (lv_sub hl [0, 1, 2] rfl) hM
  refine lv_if_ne (tgt := 19) hx hb dX5_marksSharedWith_12 (by decide) (fun cv65 => ?_) (fun cv65 => ?_)
  · have tcv65 := eqF cv65
    refine lv_iconst (v := 0) hx hb dX5_marksSharedWith_19 (by decide) ?_
    exact join20 0 _ _ _  (lv_sub hl [0, 1, 2] rfl) hM
  · have tcv65 := eqT cv65
    refine lv_iconst (v := 1) hx hb dX5_marksSharedWith_15 (by decide) ?_
    refine lv_goto (tgt := 20) hx hb dX5_marksSharedWith_16 (by decide) ?_
    exact join20 1 _ _ _  (lv_sub hl [0, 1, 2] rfl) hM
set_option maxHeartbeats 4000000 in
set_option maxRecDepth 100000 in
theorem c_X5_fitsMarksOf (l : Launch) (D : gD) (H0 : gB) (S : Mem) (kc ns : Nat) (h0 h1 : Nat) (i0 : Int32) {u : Nat} {tl : Int} {rho : Nat × Nat} (hI : CI x0 u tl rho S) (kh0 : mK S h0 = 6) (kh1 : mK S h1 = 6) : Met l yX5_fitsMarksOf (wsU yX5_fitsMarksOf cX5_fitsMarksOf 3 (some .boolean)) ({ frames := 3, cells := 0, slots := 0, locals := 64 } : Room) (mP D H0 S kc ns [.ref h0, .ref h1, .int i0]) (mQ D H0 gI (fun r S1 k1 n1 => S = S1 ∧ kc = k1 ∧ ns = n1 ∧ (r = 0 ∨ r = 1))) 0 0 (mF H0) := by
  refine r_met (own := RX5) (by decide +kernel) rfl (Nat.le_of_ble_eq_true rfl) ?_
  intro p e s m args below meth c C hr hlk hnm H ls hl hM
  obtain ⟨hx, hb, hml, hown, hts, -, -⟩ := id C
  have hl : lv_has ls 3 [(0, .ref h0), (1, .ref h1), (2, .int i0)] := hl
  have t_0 : (0 : Int32).toInt = 0 := by decide
  have t_1 : (1 : Int32).toInt = 1 := by decide
  refine lv_aload_n hx hb dX5_fitsMarksOf_0 rfl (lv_at hl 0 rfl) ?_
  refine lv_aload_n hx hb dX5_fitsMarksOf_1 rfl (lv_at hl 1 rfl) ?_
  refine r_V (As := [.ref h1]) (rest := []) (ci := 5) C hM (c_X5_marksSharedWith l D H0 S kc ns h0 h1 hI kh0 kh1) i_X5_marksSharedWith m_X5_107 kh0 rfl rfl rfl hl.1 rfl (Nat.le_of_ble_eq_true rfl) ⟨by decide, by decide⟩ ⟨by decide, by decide⟩ dX5_fitsMarksOf_2 (fun xv4 Sv1 kv2 nv3 H locs pv5 hM => ?_)
  obtain ⟨rfl, rfl, rfl, hxv4⟩ := pv5
  refine W.eq (g2 := F0 m 5 ls [.int xv4]) rfl ?_
  refine lv_iload_n hx hb dX5_fitsMarksOf_5 rfl (lv_at hl 2 rfl) ?_
  refine lv_iand hx hb dX5_fitsMarksOf_6 ?_
  refine lv_topi (fun xv6 exv6 => ?_)
  refine lv_iload_n hx hb dX5_fitsMarksOf_7 rfl (lv_at hl 2 rfl) ?_
  refine lv_icmp_ne (tgt := 15) hx hb dX5_fitsMarksOf_8 (by decide) (fun cv7 => ?_) (fun cv7 => ?_)
  · have tcv7 := eqF cv7
    refine lv_iconst (v := 0) hx hb dX5_fitsMarksOf_15 (by decide) ?_
    exact r_retZ C hr hlk rfl hM (⟨rfl, rfl, rfl, by decide⟩) dX5_fitsMarksOf_16
  · have tcv7 := eqT cv7
    refine lv_iconst (v := 1) hx hb dX5_fitsMarksOf_11 (by decide) ?_
    refine lv_goto (tgt := 16) hx hb dX5_fitsMarksOf_12 (by decide) ?_
    exact r_retZ C hr hlk rfl hM (⟨rfl, rfl, rfl, by decide⟩) dX5_fitsMarksOf_16
set_option maxHeartbeats 4000000 in
set_option maxRecDepth 100000 in
theorem c_X4_countFitting (l : Launch) (D : gD) (H0 : gB) (S : Mem) (kc ns : Nat) (h0 h1 : Nat) (i0 : Int32) {u : Nat} {tl : Int} {rho : Nat × Nat} (hI : CI x0 u tl rho S) (kh0 : mK S h0 = 5) (kh1 : mK S h1 = 6) : Met l yX4_countFitting (wsU yX4_countFitting cX4_countFitting 6 (some .int)) ({ frames := 4, cells := 0, slots := 0, locals := 86 } : Room) (mP D H0 S kc ns [.ref h0, .ref h1, .int i0]) (mQ D H0 gI (fun r S1 k1 n1 => S = S1 ∧ kc = k1 ∧ ns = n1 ∧ True)) 0 0 (mF H0) := by
  refine r_met (own := RX4) (by decide +kernel) rfl (Nat.le_of_ble_eq_true rfl) ?_
  intro p e s m args below meth c C hr hlk hnm H ls hl hM
  obtain ⟨hx, hb, hml, hown, hts, -, -⟩ := id C
  have hl : lv_has ls 6 [(0, .ref h0), (1, .ref h1), (2, .int i0)] := hl
  have t_0 : (0 : Int32).toInt = 0 := by decide
  have t_1 : (1 : Int32).toInt = 1 := by decide
  refine lv_iconst (v := 0) hx hb dX4_countFitting_0 (by decide) ?_
  refine lv_istore_n (lv' := [(3, .int 0), (0, .ref h0), (1, .ref h1), (2, .int i0)]) hx hb dX4_countFitting_1 rfl hl (by decide) rfl (fun ls hl => ?_)
  refine lv_iconst (v := 0) hx hb dX4_countFitting_2 (by decide) ?_
  refine lv_istore (lv' := [(4, .int 0), (3, .int 0), (0, .ref h0), (1, .ref h1), (2, .int i0)]) hx hb dX4_countFitting_3 hl (by decide) rfl (fun ls hl => ?_)
  have loop5 : ∀ (fu : Nat) (j : Int32) (n3 : Int32) (H : Heap) (locs : List Loc) (ls : Array Slot), (0 ≤ j.toInt) → (60 - j.toInt).toNat < fu → lv_has ls 6 [(0, .ref h0), (1, .ref h1), (2, .int i0), (3, .int n3), (4, .int j)] → mH D H0 S kc ns H locs → W p l e ({ frames := 4, cells := 0, slots := 0, locals := 86 } : Room) s m args below meth c H locs 0 0 (MQ below (mQ D H0 gI (fun r S1 k1 n1 => S = S1 ∧ kc = k1 ∧ ns = n1 ∧ True)) args s 0 0 (mF H0)) (F0 m 5 ls []) := by
    intro fu
    induction fu with
    | zero => intro j n3 H locs ls h5_0 hfu; exact absurd hfu (by omega)
    | succ fu ih5 =>
      intro j n3 H locs ls h5_0 hfu hl hM
      refine lv_iload hx hb dX4_countFitting_5 (lv_at hl 4 rfl) ?_
      refine lv_aload_n hx hb dX4_countFitting_7 rfl (lv_at hl 0 rfl) ?_
      refine r_get (ci := 4) (k := 1) (v := .int (mI S 401 h0)) C hM kh0 f_X4_17 rfl dX4_countFitting_8 ?_
      refine lv_topi (fun xv1 exv1 => ?_)
      have fxv1 := NI.f401 hI.2 kh0
      rw [← exv1] at fxv1
      refine lv_icmp_ge (tgt := 46) hx hb dX4_countFitting_11 (by decide) (fun cv2 => ?_) (fun cv2 => ?_)
      · have tcv2 := leT cv2
        refine lv_iload_n hx hb dX4_countFitting_46 rfl (lv_at hl 3 rfl) ?_
        exact r_retI C hr hlk hM (⟨rfl, rfl, rfl, trivial⟩) dX4_countFitting_47
      · have tcv2 := leF cv2
        refine lv_aload_n hx hb dX4_countFitting_14 rfl (lv_at hl 0 rfl) ?_
        refine lv_iload hx hb dX4_countFitting_15 (lv_at hl 4 rfl) ?_
        refine r_V (As := [.int j]) (rest := []) (ci := 4) C hM (c_X4_at l D H0 S kc ns h0 j hI id kh0) i_X4_at m_X4_34 kh0 rfl rfl rfl hl.1 rfl (Nat.le_of_ble_eq_true rfl) ⟨by decide, by decide⟩ ⟨by decide, by decide⟩ dX4_countFitting_17 (fun rv6 Sv3 kv4 nv5 H locs pv7 hM => ?_)
        obtain ⟨rfl, rfl, rfl, krv6⟩ := pv7
        refine W.eq (g2 := F0 m 20 ls [va_rf rv6]) rfl ?_
        refine lv_astoreQ (lv' := [(5, va_rf rv6), (0, .ref h0), (1, .ref h1), (2, .int i0), (3, .int n3), (4, .int j)]) hx hb dX4_countFitting_20 hl (by decide) rfl (fun ls hl => ?_)
        refine lv_aloadQ hx hb dX4_countFitting_22 (lv_at hl 0 rfl) ?_
        cases rv6 with
        | none =>
          refine lv_ifnullN (tgt := 40) hx hb dX4_countFitting_24 (by decide) ?_
          obtain ⟨xv9, exv9⟩ : ∃ y : Int32, y = j + 1 := ⟨_, rfl⟩
          try (have txv9 := addI (a := j) (b := 1) (by omega) (by omega); rw [← exv9] at txv9)
          refine lv_iinc (v := xv9) (lv' := [(4, .int xv9), (5, .null), (0, .ref h0), (1, .ref h1), (2, .int i0), (3, .int n3)]) hx hb dX4_countFitting_40 hl (k := 5) rfl (by rw [exv9]; rfl) (by decide) rfl (fun ls hl => ?_)
          refine lv_goto (tgt := 5) hx hb dX4_countFitting_43 (by decide) ?_
          exact ih5 xv9 n3 _ _ _ (by omega) (by omega) (lv_sub hl [2, 3, 4, 5, 0] rfl) hM
        | some qv8 =>
          have kqv8 : mK S qv8 = 6 := krv6 qv8 rfl
          refine lv_ifnull hx hb dX4_countFitting_24 ?_
          refine lv_aload hx hb dX4_countFitting_27 (lv_at hl 0 rfl) ?_
          refine lv_aload_n hx hb dX4_countFitting_29 rfl (lv_at hl 2 rfl) ?_
          refine lv_iload_n hx hb dX4_countFitting_30 rfl (lv_at hl 3 rfl) ?_
          refine r_VN (As := [.ref h1, .int i0]) (rest := []) (ci := 5) C hM (c_X5_fitsMarksOf l D H0 S kc ns qv8 h1 i0 hI kqv8 kh1) i_X5_fitsMarksOf m_X4_38 kqv8 rfl rfl rfl hl.1 rfl (Nat.le_of_ble_eq_true rfl) ⟨by decide, by decide⟩ ⟨by decide, by decide⟩ dX4_countFitting_31 (fun xv13 Sv10 kv11 nv12 H locs pv14 hM => ?_)
          obtain ⟨rfl, rfl, rfl, hxv13⟩ := pv14
          refine W.eq (g2 := F0 m 34 ls [.int xv13]) rfl ?_
          refine lv_if_eq (tgt := 40) hx hb dX4_countFitting_34 (by decide) (fun cv15 => ?_) (fun cv15 => ?_)
          · have tcv15 := eqT cv15
            obtain ⟨xv16, exv16⟩ : ∃ y : Int32, y = j + 1 := ⟨_, rfl⟩
            try (have txv16 := addI (a := j) (b := 1) (by omega) (by omega); rw [← exv16] at txv16)
            refine lv_iinc (v := xv16) (lv' := [(4, .int xv16), (5, .ref qv8), (0, .ref h0), (1, .ref h1), (2, .int i0), (3, .int n3)]) hx hb dX4_countFitting_40 hl (k := 5) rfl (by rw [exv16]; rfl) (by decide) rfl (fun ls hl => ?_)
            refine lv_goto (tgt := 5) hx hb dX4_countFitting_43 (by decide) ?_
            exact ih5 xv16 n3 _ _ _ (by omega) (by omega) (lv_sub hl [2, 3, 4, 5, 0] rfl) hM
          · have tcv15 := eqF cv15
            obtain ⟨xv17, exv17⟩ : ∃ y : Int32, y = n3 + 1 := ⟨_, rfl⟩
            try (have txv17 := addI (a := n3) (b := 1) (by omega) (by omega); rw [← exv17] at txv17)
            refine lv_iinc (v := xv17) (lv' := [(3, .int xv17), (5, .ref qv8), (0, .ref h0), (1, .ref h1), (2, .int i0), (4, .int j)]) hx hb dX4_countFitting_37 hl (k := 4) rfl (by rw [exv17]; rfl) (by decide) rfl (fun ls hl => ?_)
            obtain ⟨xv18, exv18⟩ : ∃ y : Int32, y = j + 1 := ⟨_, rfl⟩
            try (have txv18 := addI (a := j) (b := 1) (by omega) (by omega); rw [← exv18] at txv18)
            refine lv_iinc (v := xv18) (lv' := [(4, .int xv18), (3, .int xv17), (5, .ref qv8), (0, .ref h0), (1, .ref h1), (2, .int i0)]) hx hb dX4_countFitting_40 hl (k := 5) rfl (by rw [exv18]; rfl) (by decide) rfl (fun ls hl => ?_)
            refine lv_goto (tgt := 5) hx hb dX4_countFitting_43 (by decide) ?_
            exact ih5 xv18 xv17 _ _ _ (by omega) (by omega) (lv_sub hl [3, 4, 5, 1, 0] rfl) hM
  exact loop5 (((60 - (0 : Int32).toInt).toNat) + 1) 0 0 _ _ _ (by omega) (by omega) (lv_sub hl [2, 3, 4, 1, 0] rfl) hM
set_option maxHeartbeats 4000000 in
set_option maxRecDepth 100000 in
theorem c_X4_fitting (l : Launch) (D : gD) (H0 : gB) (S : Mem) (kc ns : Nat) (h0 h1 : Nat) (i0 i1 : Int32) {u : Nat} {tl : Int} {rho : Nat × Nat} (hI : CI x0 u tl rho S) (kh0 : mK S h0 = 5) (kh1 : mK S h1 = 6) : Met l yX4_fitting (wsU yX4_fitting cX4_fitting 7 (some (.object "ClickBench$Part"))) ({ frames := 4, cells := 0, slots := 0, locals := 86 } : Room) (mP D H0 S kc ns [.ref h0, .ref h1, .int i0, .int i1]) (mQ D H0 gR (fun r S1 k1 n1 => S = S1 ∧ kc = k1 ∧ ns = n1 ∧ (∀ q, r = some q → mK S q = 6))) 0 0 (mF H0) := by
  refine r_met (own := RX4) (by decide +kernel) rfl (Nat.le_of_ble_eq_true rfl) ?_
  intro p e s m args below meth c C hr hlk hnm H ls hl hM
  obtain ⟨hx, hb, hml, hown, hts, -, -⟩ := id C
  have hl : lv_has ls 7 [(0, .ref h0), (1, .ref h1), (2, .int i0), (3, .int i1)] := hl
  have t_m1 : (-1 : Int32).toInt = -1 := by decide
  have t_0 : (0 : Int32).toInt = 0 := by decide
  have t_1 : (1 : Int32).toInt = 1 := by decide
  refine lv_iload_n hx hb dX4_fitting_0 rfl (lv_at hl 3 rfl) ?_
  refine lv_istore (lv' := [(4, .int i1), (0, .ref h0), (1, .ref h1), (2, .int i0), (3, .int i1)]) hx hb dX4_fitting_1 hl (by decide) rfl (fun ls hl => ?_)
  refine lv_iconst (v := 0) hx hb dX4_fitting_3 (by decide) ?_
  refine lv_istore (lv' := [(5, .int 0), (4, .int i1), (0, .ref h0), (1, .ref h1), (2, .int i0), (3, .int i1)]) hx hb dX4_fitting_4 hl (by decide) rfl (fun ls hl => ?_)
  have loop6 : ∀ (fu : Nat) (j : Int32) (n3 : Int32) (H : Heap) (locs : List Loc) (ls : Array Slot), (0 ≤ j.toInt) → (60 - j.toInt).toNat < fu → lv_has ls 7 [(0, .ref h0), (1, .ref h1), (2, .int i0), (4, .int n3), (5, .int j)] → mH D H0 S kc ns H locs → W p l e ({ frames := 4, cells := 0, slots := 0, locals := 86 } : Room) s m args below meth c H locs 0 0 (MQ below (mQ D H0 gR (fun r S1 k1 n1 => S = S1 ∧ kc = k1 ∧ ns = n1 ∧ (∀ q, r = some q → mK S q = 6))) args s 0 0 (mF H0)) (F0 m 6 ls []) := by
    intro fu
    induction fu with
    | zero => intro j n3 H locs ls h6_0 hfu; exact absurd hfu (by omega)
    | succ fu ih6 =>
      intro j n3 H locs ls h6_0 hfu hl hM
      refine lv_iload hx hb dX4_fitting_6 (lv_at hl 4 rfl) ?_
      refine lv_aload_n hx hb dX4_fitting_8 rfl (lv_at hl 0 rfl) ?_
      refine r_get (ci := 4) (k := 1) (v := .int (mI S 401 h0)) C hM kh0 f_X4_17 rfl dX4_fitting_9 ?_
      refine lv_topi (fun xv1 exv1 => ?_)
      have fxv1 := NI.f401 hI.2 kh0
      rw [← exv1] at fxv1
      refine lv_icmp_ge (tgt := 60) hx hb dX4_fitting_12 (by decide) (fun cv2 => ?_) (fun cv2 => ?_)
      · have tcv2 := leT cv2
        refine lv_null hx hb dX4_fitting_60 ?_
        exact r_retR (v := none) C hr hlk hM (⟨rfl, rfl, rfl, fun z h => by cases h⟩) dX4_fitting_61
      · have tcv2 := leF cv2
        refine lv_iload hx hb dX4_fitting_15 (lv_at hl 3 rfl) ?_
        refine lv_if_lt (tgt := 60) hx hb dX4_fitting_17 (by decide) (fun cv3 => ?_) (fun cv3 => ?_)
        · have tcv3 := ltT cv3
          refine lv_null hx hb dX4_fitting_60 ?_
          exact r_retR (v := none) C hr hlk hM (⟨rfl, rfl, rfl, fun z h => by cases h⟩) dX4_fitting_61
        · have tcv3 := ltF cv3
          refine lv_aload_n hx hb dX4_fitting_20 rfl (lv_at hl 0 rfl) ?_
          refine lv_iload hx hb dX4_fitting_21 (lv_at hl 4 rfl) ?_
          refine r_V (As := [.int j]) (rest := []) (ci := 4) C hM (c_X4_at l D H0 S kc ns h0 j hI id kh0) i_X4_at m_X4_34 kh0 rfl rfl rfl hl.1 rfl (Nat.le_of_ble_eq_true rfl) ⟨by decide, by decide⟩ ⟨by decide, by decide⟩ dX4_fitting_23 (fun rv7 Sv4 kv5 nv6 H locs pv8 hM => ?_)
          obtain ⟨rfl, rfl, rfl, krv7⟩ := pv8
          refine W.eq (g2 := F0 m 26 ls [va_rf rv7]) rfl ?_
          refine lv_astoreQ (lv' := [(6, va_rf rv7), (0, .ref h0), (1, .ref h1), (2, .int i0), (4, .int n3), (5, .int j)]) hx hb dX4_fitting_26 hl (by decide) rfl (fun ls hl => ?_)
          refine lv_aloadQ hx hb dX4_fitting_28 (lv_at hl 0 rfl) ?_
          cases rv7 with
          | none =>
            refine lv_ifnullN (tgt := 54) hx hb dX4_fitting_30 (by decide) ?_
            obtain ⟨xv10, exv10⟩ : ∃ y : Int32, y = j + 1 := ⟨_, rfl⟩
            try (have txv10 := addI (a := j) (b := 1) (by omega) (by omega); rw [← exv10] at txv10)
            refine lv_iinc (v := xv10) (lv' := [(5, .int xv10), (6, .null), (0, .ref h0), (1, .ref h1), (2, .int i0), (4, .int n3)]) hx hb dX4_fitting_54 hl (k := 5) rfl (by rw [exv10]; rfl) (by decide) rfl (fun ls hl => ?_)
            refine lv_goto (tgt := 6) hx hb dX4_fitting_57 (by decide) ?_
            exact ih6 xv10 n3 _ _ _ (by omega) (by omega) (lv_sub hl [2, 3, 4, 5, 0] rfl) hM
          | some qv9 =>
            have kqv9 : mK S qv9 = 6 := krv7 qv9 rfl
            refine lv_ifnull hx hb dX4_fitting_30 ?_
            refine lv_aload hx hb dX4_fitting_33 (lv_at hl 0 rfl) ?_
            refine lv_aload_n hx hb dX4_fitting_35 rfl (lv_at hl 2 rfl) ?_
            refine lv_iload_n hx hb dX4_fitting_36 rfl (lv_at hl 3 rfl) ?_
            refine r_VN (As := [.ref h1, .int i0]) (rest := []) (ci := 5) C hM (c_X5_fitsMarksOf l D H0 S kc ns qv9 h1 i0 hI kqv9 kh1) i_X5_fitsMarksOf m_X4_38 kqv9 rfl rfl rfl hl.1 rfl (Nat.le_of_ble_eq_true rfl) ⟨by decide, by decide⟩ ⟨by decide, by decide⟩ dX4_fitting_37 (fun xv14 Sv11 kv12 nv13 H locs pv15 hM => ?_)
            obtain ⟨rfl, rfl, rfl, hxv14⟩ := pv15
            refine W.eq (g2 := F0 m 40 ls [.int xv14]) rfl ?_
            refine lv_if_eq (tgt := 54) hx hb dX4_fitting_40 (by decide) (fun cv16 => ?_) (fun cv16 => ?_)
            · have tcv16 := eqT cv16
              obtain ⟨xv17, exv17⟩ : ∃ y : Int32, y = j + 1 := ⟨_, rfl⟩
              try (have txv17 := addI (a := j) (b := 1) (by omega) (by omega); rw [← exv17] at txv17)
              refine lv_iinc (v := xv17) (lv' := [(5, .int xv17), (6, .ref qv9), (0, .ref h0), (1, .ref h1), (2, .int i0), (4, .int n3)]) hx hb dX4_fitting_54 hl (k := 5) rfl (by rw [exv17]; rfl) (by decide) rfl (fun ls hl => ?_)
              refine lv_goto (tgt := 6) hx hb dX4_fitting_57 (by decide) ?_
              exact ih6 xv17 n3 _ _ _ (by omega) (by omega) (lv_sub hl [2, 3, 4, 5, 0] rfl) hM
            · have tcv16 := eqF cv16
              refine lv_iload hx hb dX4_fitting_43 (lv_at hl 4 rfl) ?_
              refine lv_if_ne (tgt := 51) hx hb dX4_fitting_45 (by decide) (fun cv18 => ?_) (fun cv18 => ?_)
              · have tcv18 := eqF cv18
                obtain ⟨xv19, exv19⟩ : ∃ y : Int32, y = n3 + (-1) := ⟨_, rfl⟩
                try (have txv19 := addI (a := n3) (b := (-1)) (by omega) (by omega); rw [← exv19] at txv19)
                refine lv_iinc (v := xv19) (lv' := [(4, .int xv19), (6, .ref qv9), (0, .ref h0), (1, .ref h1), (2, .int i0), (5, .int j)]) hx hb dX4_fitting_51 hl (k := 4) rfl (by rw [exv19]; rfl) (by decide) rfl (fun ls hl => ?_)
                obtain ⟨xv20, exv20⟩ : ∃ y : Int32, y = j + 1 := ⟨_, rfl⟩
                try (have txv20 := addI (a := j) (b := 1) (by omega) (by omega); rw [← exv20] at txv20)
                refine lv_iinc (v := xv20) (lv' := [(5, .int xv20), (4, .int xv19), (6, .ref qv9), (0, .ref h0), (1, .ref h1), (2, .int i0)]) hx hb dX4_fitting_54 hl (k := 5) rfl (by rw [exv20]; rfl) (by decide) rfl (fun ls hl => ?_)
                refine lv_goto (tgt := 6) hx hb dX4_fitting_57 (by decide) ?_
                exact ih6 xv20 xv19 _ _ _ (by omega) (by omega) (lv_sub hl [3, 4, 5, 1, 0] rfl) hM
              · have tcv18 := eqT cv18
                refine lv_aload hx hb dX4_fitting_48 (lv_at hl 0 rfl) ?_
                exact r_retR (v := (some qv9)) C hr hlk hM (⟨rfl, rfl, rfl, fun z h => by cases h; exact kqv9⟩) dX4_fitting_50
  exact loop6 (((60 - (0 : Int32).toInt).toNat) + 1) 0 i1 _ _ _ (by omega) (by omega) (lv_sub hl [2, 3, 4, 1, 0] rfl) hM
