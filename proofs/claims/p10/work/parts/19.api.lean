set_option maxHeartbeats 4000000 in
set_option maxRecDepth 100000 in
theorem c_X11_pageOn (l : Launch) (D : gD) (H0 : gB) (S : Mem) (kc ns : Nat) (h0 : Nat) (i0 : Int32) {u : Nat} {tl : Int} {rho : Nat × Nat} (hI : CI x0 u tl rho S) (kh0 : mK S h0 = 12) : Met l yX11_pageOn (wsU yX11_pageOn cX11_pageOn 2 (some (.object "ClickBench$Page"))) ({ frames := 0, cells := 0, slots := 0, locals := 0 } : Room) (mP D H0 S kc ns [.ref h0, .int i0]) (mQ D H0 gR (fun r S1 k1 n1 => S = S1 ∧ kc = k1 ∧ ns = n1 ∧ (∀ q, r = some q → mK S q = 5))) 0 0 (mF H0) := by
  refine r_met (own := RX11) (by decide +kernel) rfl (Nat.le_of_ble_eq_true rfl) ?_
  intro p e s m args below meth c C hr hlk hnm H ls hl hM
  obtain ⟨hx, hb, hml, hown, hts, -, -⟩ := id C
  have hl : lv_has ls 2 [(0, .ref h0), (1, .int i0)] := hl
  have t_0 : (0 : Int32).toInt = 0 := by decide
  have t_4 : (4 : Int32).toInt = 4 := by decide
  refine lv_iload_n hx hb dX11_pageOn_0 rfl (lv_at hl 1 rfl) ?_
  refine lv_if_lt (tgt := 9) hx hb dX11_pageOn_1 (by decide) (fun cv1 => ?_) (fun cv1 => ?_)
  · have tcv1 := ltT cv1
    refine lv_null hx hb dX11_pageOn_9 ?_
    refine lv_goto (tgt := 19) hx hb dX11_pageOn_10 (by decide) ?_
    exact r_retR (v := none) C hr hlk hM (⟨rfl, rfl, rfl, fun z h => by cases h⟩) dX11_pageOn_19
  · have tcv1 := ltF cv1
    refine lv_iload_n hx hb dX11_pageOn_4 rfl (lv_at hl 1 rfl) ?_
    refine lv_iconst (v := 4) hx hb dX11_pageOn_5 (by decide) ?_
    refine lv_icmp_lt (tgt := 13) hx hb dX11_pageOn_6 (by decide) (fun cv2 => ?_) (fun cv2 => ?_)
    · have tcv2 := ltT cv2
      refine lv_aload_n hx hb dX11_pageOn_13 rfl (lv_at hl 0 rfl) ?_
      obtain ⟨qv3, eqv3, kqv3, nqv3⟩ := TI.nn hI.1 (ci := 11) (k := 2) kh0
      refine r_get (ci := 11) (k := 2) (v := .ref qv3) C hM kh0 f_X11_27 (congrArg va_rf eqv3) dX11_pageOn_14 ?_
      refine lv_iload_n hx hb dX11_pageOn_17 rfl (lv_at hl 1 rfl) ?_
      refine r_aald (t := 1) C hM kqv3 rfl (by decide) (inI (by omega) (by rw [nqv3 (by decide)]; show _ < (4 : Int); omega)) dX11_pageOn_18 ?_
      obtain ⟨rv4, erv4, krv4⟩ : ∃ r : Option Nat, aR S qv3 i0.toNatClampNeg = r ∧ ∀ q, r = some q → mK S q = 5 := ⟨_, rfl, TI.arr hI.1 (t := 1) kqv3⟩
      refine W.eq (g2 := F0 m 19 ls [va_rf rv4]) (by rw [← erv4]) ?_
      exact r_retR (v := rv4) C hr hlk hM (⟨rfl, rfl, rfl, krv4⟩) dX11_pageOn_19
    · have tcv2 := ltF cv2
      refine lv_null hx hb dX11_pageOn_9 ?_
      refine lv_goto (tgt := 19) hx hb dX11_pageOn_10 (by decide) ?_
      exact r_retR (v := none) C hr hlk hM (⟨rfl, rfl, rfl, fun z h => by cases h⟩) dX11_pageOn_19
set_option maxHeartbeats 4000000 in
set_option maxRecDepth 100000 in
theorem c_X11_partOn (l : Launch) (D : gD) (H0 : gB) (S : Mem) (kc ns : Nat) (h0 : Nat) (i0 i1 : Int32) {u : Nat} {tl : Int} {rho : Nat × Nat} (hI : CI x0 u tl rho S) (kh0 : mK S h0 = 12) : Met l yX11_partOn (wsU yX11_partOn cX11_partOn 4 (some (.object "ClickBench$Part"))) ({ frames := 1, cells := 0, slots := 0, locals := 21 } : Room) (mP D H0 S kc ns [.ref h0, .int i0, .int i1]) (mQ D H0 gR (fun r S1 k1 n1 => S = S1 ∧ kc = k1 ∧ ns = n1 ∧ (∀ q, r = some q → mK S q = 6))) 0 0 (mF H0) := by
  refine r_met (own := RX11) (by decide +kernel) rfl (Nat.le_of_ble_eq_true rfl) ?_
  intro p e s m args below meth c C hr hlk hnm H ls hl hM
  obtain ⟨hx, hb, hml, hown, hts, -, -⟩ := id C
  have hl : lv_has ls 4 [(0, .ref h0), (1, .int i0), (2, .int i1)] := hl
  have t_0 : (0 : Int32).toInt = 0 := by decide
  refine lv_aload_n hx hb dX11_partOn_0 rfl (lv_at hl 0 rfl) ?_
  refine lv_iload_n hx hb dX11_partOn_1 rfl (lv_at hl 1 rfl) ?_
  refine r_V (As := [.int i0]) (rest := []) (ci := 11) C hM (c_X11_pageOn l D H0 S kc ns h0 i0 hI kh0) i_X11_pageOn m_X11_173 kh0 rfl rfl rfl hl.1 rfl (Nat.le_of_ble_eq_true rfl) ⟨by decide, by decide⟩ ⟨by decide, by decide⟩ dX11_partOn_2 (fun rv4 Sv1 kv2 nv3 H locs pv5 hM => ?_)
  obtain ⟨rfl, rfl, rfl, krv4⟩ := pv5
  refine W.eq (g2 := F0 m 5 ls [va_rf rv4]) rfl ?_
  refine lv_astore_nQ (lv' := [(3, va_rf rv4), (0, .ref h0), (1, .int i0), (2, .int i1)]) hx hb dX11_partOn_5 rfl hl (by decide) rfl (fun ls hl => ?_)
  refine lv_aload_nQ hx hb dX11_partOn_6 rfl (lv_at hl 0 rfl) ?_
  cases rv4 with
  | none =>
    refine lv_ifnonnullN hx hb dX11_partOn_7 ?_
    refine lv_null hx hb dX11_partOn_10 ?_
    refine lv_goto (tgt := 19) hx hb dX11_partOn_11 (by decide) ?_
    exact r_retR (v := none) C hr hlk hM (⟨rfl, rfl, rfl, fun z h => by cases h⟩) dX11_partOn_19
  | some qv6 =>
    have kqv6 : mK S qv6 = 5 := krv4 qv6 rfl
    refine lv_ifnonnull (tgt := 14) hx hb dX11_partOn_7 (by decide) ?_
    refine lv_aload_n hx hb dX11_partOn_14 rfl (lv_at hl 0 rfl) ?_
    refine lv_iload_n hx hb dX11_partOn_15 rfl (lv_at hl 3 rfl) ?_
    refine r_VN (As := [.int i1]) (rest := []) (ci := 4) C hM (c_X4_at l D H0 S kc ns qv6 i1 hI id kqv6) i_X4_at m_X11_269 kqv6 rfl rfl rfl hl.1 rfl (Nat.le_of_ble_eq_true rfl) ⟨by decide, by decide⟩ ⟨by decide, by decide⟩ dX11_partOn_16 (fun rv10 Sv7 kv8 nv9 H locs pv11 hM => ?_)
    obtain ⟨rfl, rfl, rfl, krv10⟩ := pv11
    refine W.eq (g2 := F0 m 19 ls [va_rf rv10]) rfl ?_
    exact r_retR (v := rv10) C hr hlk hM (⟨rfl, rfl, rfl, krv10⟩) dX11_partOn_19
set_option maxHeartbeats 4000000 in
set_option maxRecDepth 100000 in
theorem c_X11_areMarks (l : Launch) (D : gD) (H0 : gB) (S : Mem) (kc ns : Nat) (i0 : Int32) : Met l yX11_areMarks (wsU yX11_areMarks cX11_areMarks 1 (some .boolean)) ({ frames := 0, cells := 0, slots := 0, locals := 0 } : Room) (mP D H0 S kc ns [.int i0]) (mQ D H0 gI (fun r S1 k1 n1 => S = S1 ∧ kc = k1 ∧ ns = n1 ∧ (r = 0 ∨ r = 1))) 0 0 (mF H0) := by
  refine r_met (own := RX11) (by decide +kernel) rfl (Nat.le_of_ble_eq_true rfl) ?_
  intro p e s m args below meth c C hr hlk hnm H ls hl hM
  obtain ⟨hx, hb, hml, hown, hts, -, -⟩ := id C
  have hl : lv_has ls 1 [(0, .int i0)] := hl
  have t_0 : (0 : Int32).toInt = 0 := by decide
  have t_1 : (1 : Int32).toInt = 1 := by decide
  have t_255 : (255 : Int32).toInt = 255 := by decide
  refine lv_iload_n hx hb dX11_areMarks_0 rfl (lv_at hl 0 rfl) ?_
  refine lv_iconst (v := 1) hx hb dX11_areMarks_1 (by decide) ?_
  refine lv_icmp_lt (tgt := 16) hx hb dX11_areMarks_2 (by decide) (fun cv1 => ?_) (fun cv1 => ?_)
  · have tcv1 := ltT cv1
    refine lv_iconst (v := 0) hx hb dX11_areMarks_16 (by decide) ?_
    exact r_retZ C hr hlk rfl hM (⟨rfl, rfl, rfl, by decide⟩) dX11_areMarks_17
  · have tcv1 := ltF cv1
    refine lv_iload_n hx hb dX11_areMarks_5 rfl (lv_at hl 0 rfl) ?_
    refine lv_sipush (v := 255) hx hb dX11_areMarks_6 (by decide) ?_
    refine lv_icmp_gt (tgt := 16) hx hb dX11_areMarks_9 (by decide) (fun cv2 => ?_) (fun cv2 => ?_)
    · have tcv2 := ltT cv2
      refine lv_iconst (v := 0) hx hb dX11_areMarks_16 (by decide) ?_
      exact r_retZ C hr hlk rfl hM (⟨rfl, rfl, rfl, by decide⟩) dX11_areMarks_17
    · have tcv2 := ltF cv2
      refine lv_iconst (v := 1) hx hb dX11_areMarks_12 (by decide) ?_
      refine lv_goto (tgt := 17) hx hb dX11_areMarks_13 (by decide) ?_
      exact r_retZ C hr hlk rfl hM (⟨rfl, rfl, rfl, by decide⟩) dX11_areMarks_17
set_option maxHeartbeats 4000000 in
set_option maxRecDepth 100000 in
theorem c_X11_numberOf (l : Launch) (D : gD) (H0 : gB) (S : Mem) (kc ns : Nat) (o0 : Option Nat) {u : Nat} {tl : Int} {rho : Nat × Nat} (hI : CI x0 u tl rho S) (ko0 : ∀ q, o0 = some q → mK S q = 6) : Met l yX11_numberOf (wsU yX11_numberOf cX11_numberOf 1 (some .int)) ({ frames := 0, cells := 0, slots := 0, locals := 0 } : Room) (mP D H0 S kc ns [va_rf o0]) (mQ D H0 gI (fun r S1 k1 n1 => S = S1 ∧ kc = k1 ∧ ns = n1 ∧ True)) 0 0 (mF H0) := by
  refine r_met (own := RX11) (by decide +kernel) rfl (by simp [lg_sl, cat_rf, cat_i, cat_l, cat_a, cat_n]) ?_
  intro p e s m args below meth c C hr hlk hnm H ls hl hM
  obtain ⟨hx, hb, hml, hown, hts, -, -⟩ := id C
  have hl : lv_has ls 1 [(0, va_rf o0)] := by simpa [lv_args, cat_rf, cat_i, cat_l, cat_a, cat_n] using hl
  have t_m1 : (-1 : Int32).toInt = -1 := by decide
  have t_0 : (0 : Int32).toInt = 0 := by decide
  refine lv_aload_nQ hx hb dX11_numberOf_0 rfl (lv_at hl 0 rfl) ?_
  cases o0 with
  | none =>
    refine lv_ifnonnullN hx hb dX11_numberOf_1 ?_
    refine lv_iconst (v := -1) hx hb dX11_numberOf_4 (by decide) ?_
    refine lv_goto (tgt := 12) hx hb dX11_numberOf_5 (by decide) ?_
    exact r_retI C hr hlk hM (⟨rfl, rfl, rfl, trivial⟩) dX11_numberOf_12
  | some qv1 =>
    have kqv1 : mK S qv1 = 6 := ko0 qv1 rfl
    refine lv_ifnonnull (tgt := 8) hx hb dX11_numberOf_1 (by decide) ?_
    refine lv_aload_n hx hb dX11_numberOf_8 rfl (lv_at hl 0 rfl) ?_
    refine r_getN (ci := 5) (k := 1) (v := .int (mI S 501 qv1)) C hM kqv1 f_X11_323 rfl dX11_numberOf_9 ?_
    refine lv_topi (fun xv2 exv2 => ?_)
    have fxv2 := NI.g501 hI.2 kqv1 exv2
    exact r_retI C hr hlk hM (⟨rfl, rfl, rfl, trivial⟩) dX11_numberOf_12
set_option maxHeartbeats 4000000 in
set_option maxRecDepth 100000 in
theorem c_X11_letterOf (l : Launch) (D : gD) (H0 : gB) (S : Mem) (kc ns : Nat) (j0 : Int64) (i0 : Int32) : Met l yX11_letterOf (wsU yX11_letterOf cX11_letterOf 4 (some .int)) ({ frames := 0, cells := 0, slots := 0, locals := 0 } : Room) (mP D H0 S kc ns [.long j0, .int i0]) (mQ D H0 gI (fun r S1 k1 n1 => S = S1 ∧ kc = k1 ∧ ns = n1 ∧ True)) 0 0 (mF H0) := by
  refine r_met (own := RX11) (by decide +kernel) rfl (Nat.le_of_ble_eq_true rfl) ?_
  intro p e s m args below meth c C hr hlk hnm H ls hl hM
  obtain ⟨hx, hb, hml, hown, hts, -, -⟩ := id C
  have hl : lv_has ls 4 [(0, .long j0), (2, .int i0)] := hl
  have t_m1 : (-1 : Int32).toInt = -1 := by decide
  have t_0 : (0 : Int32).toInt = 0 := by decide
  have t_5 : (5 : Int32).toInt = 5 := by decide
  have t_8 : (8 : Int32).toInt = 8 := by decide
  have t_31 : (31 : Int32).toInt = 31 := by decide
  have t_96 : (96 : Int32).toInt = 96 := by decide
  refine lv_iload_n hx hb dX11_letterOf_0 rfl (lv_at hl 1 rfl) ?_
  refine lv_if_lt (tgt := 10) hx hb dX11_letterOf_1 (by decide) (fun cv1 => ?_) (fun cv1 => ?_)
  · have tcv1 := ltT cv1
    refine lv_iconst (v := -1) hx hb dX11_letterOf_10 (by decide) ?_
    exact r_retI C hr hlk hM (⟨rfl, rfl, rfl, trivial⟩) dX11_letterOf_11
  · have tcv1 := ltF cv1
    refine lv_iload_n hx hb dX11_letterOf_4 rfl (lv_at hl 1 rfl) ?_
    refine lv_bipush (v := 8) hx hb dX11_letterOf_5 (by decide) ?_
    refine lv_icmp_lt (tgt := 12) hx hb dX11_letterOf_7 (by decide) (fun cv2 => ?_) (fun cv2 => ?_)
    · have tcv2 := ltT cv2
      refine lv_lload_n hx hb dX11_letterOf_12 rfl (lv_at hl 0 rfl) ?_
      refine lv_iload_n hx hb dX11_letterOf_13 rfl (lv_at hl 1 rfl) ?_
      refine lv_iconst (v := 5) hx hb dX11_letterOf_14 (by decide) ?_
      refine lv_imul hx hb dX11_letterOf_15 ?_
      refine lv_topi (fun xv3 exv3 => ?_)
      refine lv_lshr hx hb dX11_letterOf_16 rfl ?_
      refine lv_topl (fun lv4 elv4 => ?_)
      refine lv_l2i hx hb dX11_letterOf_17 rfl ?_
      refine lv_topi (fun xv5 exv5 => ?_)
      refine lv_bipush (v := 31) hx hb dX11_letterOf_18 (by decide) ?_
      refine lv_iand hx hb dX11_letterOf_20 ?_
      refine lv_topi (fun xv6 exv6 => ?_)
      refine lv_istore_n (lv' := [(3, .int xv6), (0, .long j0), (2, .int i0)]) hx hb dX11_letterOf_21 rfl hl (by decide) rfl (fun ls hl => ?_)
      refine lv_iload_n hx hb dX11_letterOf_22 rfl (lv_at hl 0 rfl) ?_
      refine lv_if_ne (tgt := 30) hx hb dX11_letterOf_23 (by decide) (fun cv7 => ?_) (fun cv7 => ?_)
      · have tcv7 := eqF cv7
        refine lv_iload_n hx hb dX11_letterOf_30 rfl (lv_at hl 0 rfl) ?_
        refine lv_bipush (v := 96) hx hb dX11_letterOf_31 (by decide) ?_
        refine lv_iadd hx hb dX11_letterOf_33 ?_
        refine lv_topi (fun xv8 exv8 => ?_)
        exact r_retI C hr hlk hM (⟨rfl, rfl, rfl, trivial⟩) dX11_letterOf_34
      · have tcv7 := eqT cv7
        refine lv_iconst (v := -1) hx hb dX11_letterOf_26 (by decide) ?_
        refine lv_goto (tgt := 34) hx hb dX11_letterOf_27 (by decide) ?_
        exact r_retI C hr hlk hM (⟨rfl, rfl, rfl, trivial⟩) dX11_letterOf_34
    · have tcv2 := ltF cv2
      refine lv_iconst (v := -1) hx hb dX11_letterOf_10 (by decide) ?_
      exact r_retI C hr hlk hM (⟨rfl, rfl, rfl, trivial⟩) dX11_letterOf_11
set_option maxHeartbeats 4000000 in
set_option maxRecDepth 100000 in
theorem c_X11_fault (l : Launch) (D : gD) (H0 : gB) (S : Mem) (kc ns : Nat) (h0 : Nat) (i0 : Int32) {u : Nat} {tl : Int} {rho : Nat × Nat} (hI : CI x0 u tl rho S) (kh0 : mK S h0 = 12) : Met l yX11_fault (wsU yX11_fault cX11_fault 2 (some .int)) ({ frames := 0, cells := 0, slots := 0, locals := 0 } : Room) (mP D H0 S kc ns [.ref h0, .int i0]) (mQ D H0 gI (fun r S1 k1 n1 => S = S1 ∧ kc = k1 ∧ ns = n1 ∧ True)) 0 0 (mF H0) := by
  refine r_met (own := RX11) (by decide +kernel) rfl (Nat.le_of_ble_eq_true rfl) ?_
  intro p e s m args below meth c C hr hlk hnm H ls hl hM
  obtain ⟨hx, hb, hml, hown, hts, -, -⟩ := id C
  have hl : lv_has ls 2 [(0, .ref h0), (1, .int i0)] := hl
  have t_m1 : (-1 : Int32).toInt = -1 := by decide
  have t_0 : (0 : Int32).toInt = 0 := by decide
  refine lv_iload_n hx hb dX11_fault_0 rfl (lv_at hl 1 rfl) ?_
  by_cases hv1_0 : i0 = 0
  · refine lv_lookup (off := 27) (tgt := 28) hx hb dX11_fault_1 (by decide) (by rw [hv1_0]; decide) (by decide) ?_
    refine lv_aload_n hx hb dX11_fault_28 rfl (lv_at hl 0 rfl) ?_
    obtain ⟨qv2, eqv2, kqv2, nqv2⟩ := TI.nn hI.1 (ci := 11) (k := 1) kh0
    refine r_get (ci := 11) (k := 1) (v := .ref qv2) C hM kh0 f_X11_21 (congrArg va_rf eqv2) dX11_fault_29 ?_
    refine r_getN (ci := 6) (k := 1) (v := .int (mI S 601 qv2)) C hM kqv2 f_X11_95 rfl dX11_fault_32 ?_
    refine lv_topi (fun xv3 exv3 => ?_)
    exact r_retI C hr hlk hM (⟨rfl, rfl, rfl, trivial⟩) dX11_fault_35
  by_cases hv1_1 : i0 = 1
  · refine lv_lookup (off := 35) (tgt := 36) hx hb dX11_fault_1 (by decide) (by rw [hv1_1]; decide) (by decide) ?_
    refine lv_aload_n hx hb dX11_fault_36 rfl (lv_at hl 0 rfl) ?_
    obtain ⟨qv4, eqv4, kqv4, nqv4⟩ := TI.nn hI.1 (ci := 11) (k := 1) kh0
    refine r_get (ci := 11) (k := 1) (v := .ref qv4) C hM kh0 f_X11_21 (congrArg va_rf eqv4) dX11_fault_37 ?_
    refine r_getN (ci := 6) (k := 2) (v := .int (mI S 602 qv4)) C hM kqv4 f_X11_98 rfl dX11_fault_40 ?_
    refine lv_topi (fun xv5 exv5 => ?_)
    exact r_retI C hr hlk hM (⟨rfl, rfl, rfl, trivial⟩) dX11_fault_43
  refine lv_lookup (off := 43) (tgt := 44) hx hb dX11_fault_1 (by decide) (by rw [lv_osw hv1_0 (by decide)]; rw [lv_osw hv1_1 (by decide)]; rfl) (by decide) ?_
  refine lv_iconst (v := -1) hx hb dX11_fault_44 (by decide) ?_
  exact r_retI C hr hlk hM (⟨rfl, rfl, rfl, trivial⟩) dX11_fault_45
set_option maxHeartbeats 4000000 in
set_option maxRecDepth 100000 in
theorem c_X11_part (l : Launch) (D : gD) (H0 : gB) (S : Mem) (kc ns : Nat) (h0 : Nat) (i0 i1 i2 : Int32) {u : Nat} {tl : Int} {rho : Nat × Nat} (hI : CI x0 u tl rho S) (kh0 : mK S h0 = 12) : Met l yX11_part (wsU yX11_part cX11_part 5 (some .int)) ({ frames := 2, cells := 0, slots := 0, locals := 44 } : Room) (mP D H0 S kc ns [.ref h0, .int i0, .int i1, .int i2]) (mQ D H0 gI (fun r S1 k1 n1 => S = S1 ∧ kc = k1 ∧ ns = n1 ∧ True)) 0 0 (mF H0) := by
  refine r_met (own := RX11) (by decide +kernel) rfl (Nat.le_of_ble_eq_true rfl) ?_
  intro p e s m args below meth c C hr hlk hnm H ls hl hM
  obtain ⟨hx, hb, hml, hown, hts, -, -⟩ := id C
  have hl : lv_has ls 5 [(0, .ref h0), (1, .int i0), (2, .int i1), (3, .int i2)] := hl
  have t_m1 : (-1 : Int32).toInt = -1 := by decide
  have t_0 : (0 : Int32).toInt = 0 := by decide
  have t_1 : (1 : Int32).toInt = 1 := by decide
  refine lv_aload_n hx hb dX11_part_0 rfl (lv_at hl 0 rfl) ?_
  refine lv_iload_n hx hb dX11_part_1 rfl (lv_at hl 1 rfl) ?_
  refine lv_iload_n hx hb dX11_part_2 rfl (lv_at hl 2 rfl) ?_
  refine r_V (As := [.int i0, .int i1]) (rest := []) (ci := 11) C hM (c_X11_partOn l D H0 S kc ns h0 i0 i1 hI kh0) i_X11_partOn m_X11_101 kh0 rfl rfl rfl hl.1 rfl (Nat.le_of_ble_eq_true rfl) ⟨by decide, by decide⟩ ⟨by decide, by decide⟩ dX11_part_3 (fun rv4 Sv1 kv2 nv3 H locs pv5 hM => ?_)
  obtain ⟨rfl, rfl, rfl, krv4⟩ := pv5
  refine W.eq (g2 := F0 m 6 ls [va_rf rv4]) rfl ?_
  refine lv_astoreQ (lv' := [(4, va_rf rv4), (0, .ref h0), (1, .int i0), (2, .int i1), (3, .int i2)]) hx hb dX11_part_6 hl (by decide) rfl (fun ls hl => ?_)
  refine lv_aloadQ hx hb dX11_part_8 (lv_at hl 0 rfl) ?_
  cases rv4 with
  | none =>
    refine lv_ifnonnullN hx hb dX11_part_10 ?_
    refine lv_iconst (v := -1) hx hb dX11_part_13 (by decide) ?_
    exact r_retI C hr hlk hM (⟨rfl, rfl, rfl, trivial⟩) dX11_part_14
  | some qv6 =>
    have kqv6 : mK S qv6 = 6 := krv4 qv6 rfl
    refine lv_ifnonnull (tgt := 15) hx hb dX11_part_10 (by decide) ?_
    refine lv_iload_n hx hb dX11_part_15 rfl (lv_at hl 4 rfl) ?_
    by_cases hv7_0 : i2.toInt = 0
    · refine lv_tableIn (off := 56) (tgt := 72) hx hb dX11_part_16 (by omega) (by omega) (by rw [hv7_0]; rfl) (by decide) ?_
      refine lv_aload hx hb dX11_part_72 (lv_at hl 0 rfl) ?_
      refine r_getN (ci := 5) (k := 3) C hM kqv6 f_X11_105 rfl dX11_part_74 ?_
      obtain ⟨rv8, erv8, krv8⟩ : ∃ r : Option Nat, mR S 503 qv6 = r ∧ ∀ q, r = some q → mK S q = 6 := ⟨_, rfl, TI.opt hI.1 (ci := 5) (k := 3) kqv6⟩
      refine W.eq (g2 := F0 m 77 ls [va_rf rv8]) (by rw [← erv8]; rfl) ?_
      refine r_S (As := [va_rf rv8]) (rest := []) C hM (c_X11_numberOf l D H0 S kc ns rv8 hI (krv8)) i_X11_numberOf m_X11_111 rfl hl.1 rfl (Nat.le_of_ble_eq_true rfl) ⟨by decide, by decide⟩ ⟨by decide, by decide⟩ dX11_part_77 (fun xv12 Sv9 kv10 nv11 H locs pv13 hM => ?_)
      obtain ⟨rfl, rfl, rfl, hxv12⟩ := pv13
      refine W.eq (g2 := F0 m 80 ls [.int xv12]) rfl ?_
      exact r_retI C hr hlk hM (⟨rfl, rfl, rfl, trivial⟩) dX11_part_80
    by_cases hv7_1 : i2.toInt = 1
    · refine lv_tableIn (off := 65) (tgt := 81) hx hb dX11_part_16 (by omega) (by omega) (by rw [hv7_1]; rfl) (by decide) ?_
      refine lv_aload hx hb dX11_part_81 (lv_at hl 0 rfl) ?_
      refine r_getN (ci := 5) (k := 4) C hM kqv6 f_X11_115 rfl dX11_part_83 ?_
      obtain ⟨rv14, erv14, krv14⟩ : ∃ r : Option Nat, mR S 504 qv6 = r ∧ ∀ q, r = some q → mK S q = 6 := ⟨_, rfl, TI.opt hI.1 (ci := 5) (k := 4) kqv6⟩
      refine W.eq (g2 := F0 m 86 ls [va_rf rv14]) (by rw [← erv14]; rfl) ?_
      refine r_S (As := [va_rf rv14]) (rest := []) C hM (c_X11_numberOf l D H0 S kc ns rv14 hI (krv14)) i_X11_numberOf m_X11_111 rfl hl.1 rfl (Nat.le_of_ble_eq_true rfl) ⟨by decide, by decide⟩ ⟨by decide, by decide⟩ dX11_part_86 (fun xv18 Sv15 kv16 nv17 H locs pv19 hM => ?_)
      obtain ⟨rfl, rfl, rfl, hxv18⟩ := pv19
      refine W.eq (g2 := F0 m 89 ls [.int xv18]) rfl ?_
      exact r_retI C hr hlk hM (⟨rfl, rfl, rfl, trivial⟩) dX11_part_89
    by_cases hv7_2 : i2.toInt = 2
    · refine lv_tableIn (off := 74) (tgt := 90) hx hb dX11_part_16 (by omega) (by omega) (by rw [hv7_2]; rfl) (by decide) ?_
      refine lv_aload hx hb dX11_part_90 (lv_at hl 0 rfl) ?_
      refine r_getN (ci := 5) (k := 8) C hM kqv6 f_X11_118 rfl dX11_part_92 ?_
      obtain ⟨rv20, erv20, krv20⟩ : ∃ r : Option Nat, mR S 508 qv6 = r ∧ ∀ q, r = some q → mK S q = 6 := ⟨_, rfl, TI.opt hI.1 (ci := 5) (k := 8) kqv6⟩
      refine W.eq (g2 := F0 m 95 ls [va_rf rv20]) (by rw [← erv20]; rfl) ?_
      refine r_S (As := [va_rf rv20]) (rest := []) C hM (c_X11_numberOf l D H0 S kc ns rv20 hI (krv20)) i_X11_numberOf m_X11_111 rfl hl.1 rfl (Nat.le_of_ble_eq_true rfl) ⟨by decide, by decide⟩ ⟨by decide, by decide⟩ dX11_part_95 (fun xv24 Sv21 kv22 nv23 H locs pv25 hM => ?_)
      obtain ⟨rfl, rfl, rfl, hxv24⟩ := pv25
      refine W.eq (g2 := F0 m 98 ls [.int xv24]) rfl ?_
      exact r_retI C hr hlk hM (⟨rfl, rfl, rfl, trivial⟩) dX11_part_98
    by_cases hv7_3 : i2.toInt = 3
    · refine lv_tableIn (off := 83) (tgt := 99) hx hb dX11_part_16 (by omega) (by omega) (by rw [hv7_3]; rfl) (by decide) ?_
      refine lv_aload hx hb dX11_part_99 (lv_at hl 0 rfl) ?_
      refine r_getN (ci := 5) (k := 6) (v := .int (mI S 506 qv6)) C hM kqv6 f_X11_121 rfl dX11_part_101 ?_
      refine lv_topi (fun xv26 exv26 => ?_)
      exact r_retI C hr hlk hM (⟨rfl, rfl, rfl, trivial⟩) dX11_part_104
    by_cases hv7_4 : i2.toInt = 4
    · refine lv_tableIn (off := 89) (tgt := 105) hx hb dX11_part_16 (by omega) (by omega) (by rw [hv7_4]; rfl) (by decide) ?_
      refine lv_aload hx hb dX11_part_105 (lv_at hl 0 rfl) ?_
      refine r_getN (ci := 5) (k := 5) C hM kqv6 f_X11_124 rfl dX11_part_107 ?_
      obtain ⟨rv27, erv27, krv27⟩ : ∃ r : Option Nat, mR S 505 qv6 = r ∧ ∀ q, r = some q → mK S q = 6 := ⟨_, rfl, TI.opt hI.1 (ci := 5) (k := 5) kqv6⟩
      refine W.eq (g2 := F0 m 110 ls [va_rf rv27]) (by rw [← erv27]; rfl) ?_
      refine r_S (As := [va_rf rv27]) (rest := []) C hM (c_X11_numberOf l D H0 S kc ns rv27 hI (krv27)) i_X11_numberOf m_X11_111 rfl hl.1 rfl (Nat.le_of_ble_eq_true rfl) ⟨by decide, by decide⟩ ⟨by decide, by decide⟩ dX11_part_110 (fun xv31 Sv28 kv29 nv30 H locs pv32 hM => ?_)
      obtain ⟨rfl, rfl, rfl, hxv31⟩ := pv32
      refine W.eq (g2 := F0 m 113 ls [.int xv31]) rfl ?_
      exact r_retI C hr hlk hM (⟨rfl, rfl, rfl, trivial⟩) dX11_part_113
    by_cases hv7_5 : i2.toInt = 5
    · refine lv_tableIn (off := 98) (tgt := 114) hx hb dX11_part_16 (by omega) (by omega) (by rw [hv7_5]; rfl) (by decide) ?_
      refine lv_aload hx hb dX11_part_114 (lv_at hl 0 rfl) ?_
      refine r_getN (ci := 5) (k := 7) (v := .int (mI S 507 qv6)) C hM kqv6 f_X11_127 rfl dX11_part_116 ?_
      refine lv_topi (fun xv33 exv33 => ?_)
      exact r_retI C hr hlk hM (⟨rfl, rfl, rfl, trivial⟩) dX11_part_119
    by_cases hv7_6 : i2.toInt = 6
    · refine lv_tableIn (off := 104) (tgt := 120) hx hb dX11_part_16 (by omega) (by omega) (by rw [hv7_6]; rfl) (by decide) ?_
      refine lv_aload hx hb dX11_part_120 (lv_at hl 0 rfl) ?_
      refine r_getN (ci := 5) (k := 14) (v := .int (mI S 514 qv6)) C hM kqv6 f_X11_130 rfl dX11_part_122 ?_
      refine lv_topi (fun xv34 exv34 => ?_)
      refine lv_if_eq (tgt := 132) hx hb dX11_part_125 (by decide) (fun cv35 => ?_) (fun cv35 => ?_)
      · have tcv35 := eqT cv35
        refine lv_iconst (v := 0) hx hb dX11_part_132 (by decide) ?_
        exact r_retI C hr hlk hM (⟨rfl, rfl, rfl, trivial⟩) dX11_part_133
      · have tcv35 := eqF cv35
        refine lv_iconst (v := 1) hx hb dX11_part_128 (by decide) ?_
        refine lv_goto (tgt := 133) hx hb dX11_part_129 (by decide) ?_
        exact r_retI C hr hlk hM (⟨rfl, rfl, rfl, trivial⟩) dX11_part_133
    by_cases hv7_7 : i2.toInt = 7
    · refine lv_tableIn (off := 118) (tgt := 134) hx hb dX11_part_16 (by omega) (by omega) (by rw [hv7_7]; rfl) (by decide) ?_
      refine lv_aload hx hb dX11_part_134 (lv_at hl 0 rfl) ?_
      refine r_getN (ci := 5) (k := 13) (v := .int (mI S 513 qv6)) C hM kqv6 f_X11_134 rfl dX11_part_136 ?_
      refine lv_topi (fun xv36 exv36 => ?_)
      exact r_retI C hr hlk hM (⟨rfl, rfl, rfl, trivial⟩) dX11_part_139
    by_cases hv7_8 : i2.toInt = 8
    · refine lv_tableIn (off := 124) (tgt := 140) hx hb dX11_part_16 (by omega) (by omega) (by rw [hv7_8]; rfl) (by decide) ?_
      refine lv_aload hx hb dX11_part_140 (lv_at hl 0 rfl) ?_
      refine r_getN (ci := 5) (k := 15) (v := .int (mI S 515 qv6)) C hM kqv6 f_X11_137 rfl dX11_part_142 ?_
      refine lv_topi (fun xv37 exv37 => ?_)
      exact r_retI C hr hlk hM (⟨rfl, rfl, rfl, trivial⟩) dX11_part_145
    by_cases hv7_9 : i2.toInt = 9
    · refine lv_tableIn (off := 130) (tgt := 146) hx hb dX11_part_16 (by omega) (by omega) (by rw [hv7_9]; rfl) (by decide) ?_
      refine lv_aload hx hb dX11_part_146 (lv_at hl 0 rfl) ?_
      refine r_getN (ci := 5) (k := 9) (v := .int (mI S 509 qv6)) C hM kqv6 f_X11_140 rfl dX11_part_148 ?_
      refine lv_topi (fun xv38 exv38 => ?_)
      have fxv38 := NI.g509 hI.2 kqv6 exv38
      exact r_retI C hr hlk hM (⟨rfl, rfl, rfl, trivial⟩) dX11_part_151
    refine lv_tableOut (tgt := 152) hx hb dX11_part_16 (by omega) (by decide) ?_
    refine lv_iconst (v := -1) hx hb dX11_part_152 (by decide) ?_
    exact r_retI C hr hlk hM (⟨rfl, rfl, rfl, trivial⟩) dX11_part_153
set_option maxHeartbeats 4000000 in
set_option maxRecDepth 100000 in
theorem c_X11_text (l : Launch) (D : gD) (H0 : gB) (S : Mem) (kc ns : Nat) (h0 : Nat) (i0 i1 i2 i3 : Int32) {u : Nat} {tl : Int} {rho : Nat × Nat} (hI : CI x0 u tl rho S) (kh0 : mK S h0 = 12) : Met l yX11_text (wsU yX11_text cX11_text 6 (some .int)) ({ frames := 2, cells := 0, slots := 0, locals := 44 } : Room) (mP D H0 S kc ns [.ref h0, .int i0, .int i1, .int i2, .int i3]) (mQ D H0 gI (fun r S1 k1 n1 => S = S1 ∧ kc = k1 ∧ ns = n1 ∧ True)) 0 0 (mF H0) := by
  refine r_met (own := RX11) (by decide +kernel) rfl (Nat.le_of_ble_eq_true rfl) ?_
  intro p e s m args below meth c C hr hlk hnm H ls hl hM
  obtain ⟨hx, hb, hml, hown, hts, -, -⟩ := id C
  have hl : lv_has ls 6 [(0, .ref h0), (1, .int i0), (2, .int i1), (3, .int i2), (4, .int i3)] := hl
  have t_m1 : (-1 : Int32).toInt = -1 := by decide
  have t_0 : (0 : Int32).toInt = 0 := by decide
  refine lv_aload_n hx hb dX11_text_0 rfl (lv_at hl 0 rfl) ?_
  refine lv_iload_n hx hb dX11_text_1 rfl (lv_at hl 1 rfl) ?_
  refine lv_iload_n hx hb dX11_text_2 rfl (lv_at hl 2 rfl) ?_
  refine r_V (As := [.int i0, .int i1]) (rest := []) (ci := 11) C hM (c_X11_partOn l D H0 S kc ns h0 i0 i1 hI kh0) i_X11_partOn m_X11_101 kh0 rfl rfl rfl hl.1 rfl (Nat.le_of_ble_eq_true rfl) ⟨by decide, by decide⟩ ⟨by decide, by decide⟩ dX11_text_3 (fun rv4 Sv1 kv2 nv3 H locs pv5 hM => ?_)
  obtain ⟨rfl, rfl, rfl, krv4⟩ := pv5
  refine W.eq (g2 := F0 m 6 ls [va_rf rv4]) rfl ?_
  refine lv_astoreQ (lv' := [(5, va_rf rv4), (0, .ref h0), (1, .int i0), (2, .int i1), (3, .int i2), (4, .int i3)]) hx hb dX11_text_6 hl (by decide) rfl (fun ls hl => ?_)
  refine lv_aloadQ hx hb dX11_text_8 (lv_at hl 0 rfl) ?_
  cases rv4 with
  | none =>
    refine lv_ifnonnullN hx hb dX11_text_10 ?_
    refine lv_iconst (v := -1) hx hb dX11_text_13 (by decide) ?_
    exact r_retI C hr hlk hM (⟨rfl, rfl, rfl, trivial⟩) dX11_text_14
  | some qv6 =>
    have kqv6 : mK S qv6 = 6 := krv4 qv6 rfl
    refine lv_ifnonnull (tgt := 15) hx hb dX11_text_10 (by decide) ?_
    refine lv_iload_n hx hb dX11_text_15 rfl (lv_at hl 4 rfl) ?_
    by_cases hv7_0 : i2.toInt = 0
    · refine lv_tableIn (off := 28) (tgt := 44) hx hb dX11_text_16 (by omega) (by omega) (by rw [hv7_0]; rfl) (by decide) ?_
      refine lv_aload hx hb dX11_text_44 (lv_at hl 0 rfl) ?_
      refine r_getN (ci := 5) (k := 2) (v := .long (mL S 502 qv6)) C hM kqv6 f_X11_143 rfl dX11_text_46 ?_
      refine lv_topl (fun lv8 elv8 => ?_)
      refine lv_iload hx hb dX11_text_49 (lv_at hl 5 rfl) ?_
      refine r_S (As := [.long lv8, .int i3]) (rest := []) C hM (c_X11_letterOf l D H0 S kc ns lv8 i3) i_X11_letterOf m_X11_147 rfl hl.1 rfl (Nat.le_of_ble_eq_true rfl) ⟨by decide, by decide⟩ ⟨by decide, by decide⟩ dX11_text_51 (fun xv12 Sv9 kv10 nv11 H locs pv13 hM => ?_)
      obtain ⟨rfl, rfl, rfl, hxv12⟩ := pv13
      refine W.eq (g2 := F0 m 54 ls [.int xv12]) rfl ?_
      exact r_retI C hr hlk hM (⟨rfl, rfl, rfl, trivial⟩) dX11_text_54
    by_cases hv7_1 : i2.toInt = 1
    · refine lv_tableIn (off := 39) (tgt := 55) hx hb dX11_text_16 (by omega) (by omega) (by rw [hv7_1]; rfl) (by decide) ?_
      refine lv_aload hx hb dX11_text_55 (lv_at hl 0 rfl) ?_
      refine r_getN (ci := 5) (k := 10) (v := .long (mL S 510 qv6)) C hM kqv6 f_X11_151 rfl dX11_text_57 ?_
      refine lv_topl (fun lv14 elv14 => ?_)
      refine lv_iload hx hb dX11_text_60 (lv_at hl 5 rfl) ?_
      refine r_S (As := [.long lv14, .int i3]) (rest := []) C hM (c_X11_letterOf l D H0 S kc ns lv14 i3) i_X11_letterOf m_X11_147 rfl hl.1 rfl (Nat.le_of_ble_eq_true rfl) ⟨by decide, by decide⟩ ⟨by decide, by decide⟩ dX11_text_62 (fun xv18 Sv15 kv16 nv17 H locs pv19 hM => ?_)
      obtain ⟨rfl, rfl, rfl, hxv18⟩ := pv19
      refine W.eq (g2 := F0 m 65 ls [.int xv18]) rfl ?_
      exact r_retI C hr hlk hM (⟨rfl, rfl, rfl, trivial⟩) dX11_text_65
    by_cases hv7_2 : i2.toInt = 2
    · refine lv_tableIn (off := 50) (tgt := 66) hx hb dX11_text_16 (by omega) (by omega) (by rw [hv7_2]; rfl) (by decide) ?_
      refine lv_aload hx hb dX11_text_66 (lv_at hl 0 rfl) ?_
      refine lv_iload hx hb dX11_text_68 (lv_at hl 5 rfl) ?_
      refine r_VN (As := [.int i3]) (rest := []) (ci := 5) C hM (c_X5_textByte l D H0 S kc ns qv6 i3 hI kqv6) i_X5_textByte m_X11_154 kqv6 rfl rfl rfl hl.1 rfl (Nat.le_of_ble_eq_true rfl) ⟨by decide, by decide⟩ ⟨by decide, by decide⟩ dX11_text_70 (fun xv23 Sv20 kv21 nv22 H locs pv24 hM => ?_)
      obtain ⟨rfl, rfl, rfl, hxv23⟩ := pv24
      refine W.eq (g2 := F0 m 73 ls [.int xv23]) rfl ?_
      exact r_retI C hr hlk hM (⟨rfl, rfl, rfl, trivial⟩) dX11_text_73
    refine lv_tableOut (tgt := 74) hx hb dX11_text_16 (by omega) (by decide) ?_
    refine lv_iconst (v := -1) hx hb dX11_text_74 (by decide) ?_
    exact r_retI C hr hlk hM (⟨rfl, rfl, rfl, trivial⟩) dX11_text_75
set_option maxHeartbeats 4000000 in
set_option maxRecDepth 100000 in
theorem c_X11_found (l : Launch) (D : gD) (H0 : gB) (S : Mem) (kc ns : Nat) (h0 : Nat) (i0 : Int32) {u : Nat} {tl : Int} {rho : Nat × Nat} (hI : CI x0 u tl rho S) (kh0 : mK S h0 = 12) : Met l yX11_found (wsU yX11_found cX11_found 2 (some .int)) ({ frames := 1, cells := 0, slots := 0, locals := 20 } : Room) (mP D H0 S kc ns [.ref h0, .int i0]) (mQ D H0 gI (fun r S1 k1 n1 => S = S1 ∧ kc = k1 ∧ ns = n1 ∧ True)) 0 0 (mF H0) := by
  refine r_met (own := RX11) (by decide +kernel) rfl (Nat.le_of_ble_eq_true rfl) ?_
  intro p e s m args below meth c C hr hlk hnm H ls hl hM
  obtain ⟨hx, hb, hml, hown, hts, -, -⟩ := id C
  have hl : lv_has ls 2 [(0, .ref h0), (1, .int i0)] := hl
  have t_m1 : (-1 : Int32).toInt = -1 := by decide
  have t_0 : (0 : Int32).toInt = 0 := by decide
  refine lv_iload_n hx hb dX11_found_0 rfl (lv_at hl 1 rfl) ?_
  by_cases hv1_0 : i0.toInt = 0
  · refine lv_tableIn (off := 31) (tgt := 32) hx hb dX11_found_1 (by omega) (by omega) (by rw [hv1_0]; rfl) (by decide) ?_
    refine lv_aload_n hx hb dX11_found_32 rfl (lv_at hl 0 rfl) ?_
    obtain ⟨qv2, eqv2, kqv2, nqv2⟩ := TI.nn hI.1 (ci := 11) (k := 5) kh0
    refine r_get (ci := 11) (k := 5) (v := .ref qv2) C hM kh0 f_X11_44 (congrArg va_rf eqv2) dX11_found_33 ?_
    refine r_getN (ci := 1) (k := 0) C hM kqv2 f_X11_181 rfl dX11_found_36 ?_
    obtain ⟨rv3, erv3, krv3⟩ : ∃ r : Option Nat, mR S 100 qv2 = r ∧ ∀ q, r = some q → mK S q = 6 := ⟨_, rfl, TI.opt hI.1 (ci := 1) (k := 0) kqv2⟩
    refine W.eq (g2 := F0 m 39 ls [va_rf rv3]) (by rw [← erv3]; rfl) ?_
    refine r_S (As := [va_rf rv3]) (rest := []) C hM (c_X11_numberOf l D H0 S kc ns rv3 hI (krv3)) i_X11_numberOf m_X11_111 rfl hl.1 rfl (Nat.le_of_ble_eq_true rfl) ⟨by decide, by decide⟩ ⟨by decide, by decide⟩ dX11_found_39 (fun xv7 Sv4 kv5 nv6 H locs pv8 hM => ?_)
    obtain ⟨rfl, rfl, rfl, hxv7⟩ := pv8
    refine W.eq (g2 := F0 m 42 ls [.int xv7]) rfl ?_
    exact r_retI C hr hlk hM (⟨rfl, rfl, rfl, trivial⟩) dX11_found_42
  by_cases hv1_1 : i0.toInt = 1
  · refine lv_tableIn (off := 42) (tgt := 43) hx hb dX11_found_1 (by omega) (by omega) (by rw [hv1_1]; rfl) (by decide) ?_
    refine lv_aload_n hx hb dX11_found_43 rfl (lv_at hl 0 rfl) ?_
    obtain ⟨qv9, eqv9, kqv9, nqv9⟩ := TI.nn hI.1 (ci := 11) (k := 5) kh0
    refine r_get (ci := 11) (k := 5) (v := .ref qv9) C hM kh0 f_X11_44 (congrArg va_rf eqv9) dX11_found_44 ?_
    refine r_getN (ci := 1) (k := 1) C hM kqv9 f_X11_184 rfl dX11_found_47 ?_
    obtain ⟨rv10, erv10, krv10⟩ : ∃ r : Option Nat, mR S 101 qv9 = r ∧ ∀ q, r = some q → mK S q = 6 := ⟨_, rfl, TI.opt hI.1 (ci := 1) (k := 1) kqv9⟩
    refine W.eq (g2 := F0 m 50 ls [va_rf rv10]) (by rw [← erv10]; rfl) ?_
    refine r_S (As := [va_rf rv10]) (rest := []) C hM (c_X11_numberOf l D H0 S kc ns rv10 hI (krv10)) i_X11_numberOf m_X11_111 rfl hl.1 rfl (Nat.le_of_ble_eq_true rfl) ⟨by decide, by decide⟩ ⟨by decide, by decide⟩ dX11_found_50 (fun xv14 Sv11 kv12 nv13 H locs pv15 hM => ?_)
    obtain ⟨rfl, rfl, rfl, hxv14⟩ := pv15
    refine W.eq (g2 := F0 m 53 ls [.int xv14]) rfl ?_
    exact r_retI C hr hlk hM (⟨rfl, rfl, rfl, trivial⟩) dX11_found_53
  by_cases hv1_2 : i0.toInt = 2
  · refine lv_tableIn (off := 53) (tgt := 54) hx hb dX11_found_1 (by omega) (by omega) (by rw [hv1_2]; rfl) (by decide) ?_
    refine lv_aload_n hx hb dX11_found_54 rfl (lv_at hl 0 rfl) ?_
    obtain ⟨qv16, eqv16, kqv16, nqv16⟩ := TI.nn hI.1 (ci := 11) (k := 5) kh0
    refine r_get (ci := 11) (k := 5) (v := .ref qv16) C hM kh0 f_X11_44 (congrArg va_rf eqv16) dX11_found_55 ?_
    refine r_getN (ci := 1) (k := 2) (v := .int (mI S 102 qv16)) C hM kqv16 f_X11_187 rfl dX11_found_58 ?_
    refine lv_topi (fun xv17 exv17 => ?_)
    exact r_retI C hr hlk hM (⟨rfl, rfl, rfl, trivial⟩) dX11_found_61
  by_cases hv1_3 : i0.toInt = 3
  · refine lv_tableIn (off := 61) (tgt := 62) hx hb dX11_found_1 (by omega) (by omega) (by rw [hv1_3]; rfl) (by decide) ?_
    refine lv_aload_n hx hb dX11_found_62 rfl (lv_at hl 0 rfl) ?_
    obtain ⟨qv18, eqv18, kqv18, nqv18⟩ := TI.nn hI.1 (ci := 11) (k := 5) kh0
    refine r_get (ci := 11) (k := 5) (v := .ref qv18) C hM kh0 f_X11_44 (congrArg va_rf eqv18) dX11_found_63 ?_
    refine r_getN (ci := 1) (k := 3) (v := .int (mI S 103 qv18)) C hM kqv18 f_X11_190 rfl dX11_found_66 ?_
    refine lv_topi (fun xv19 exv19 => ?_)
    exact r_retI C hr hlk hM (⟨rfl, rfl, rfl, trivial⟩) dX11_found_69
  refine lv_tableOut (tgt := 70) hx hb dX11_found_1 (by omega) (by decide) ?_
  refine lv_iconst (v := -1) hx hb dX11_found_70 (by decide) ?_
  exact r_retI C hr hlk hM (⟨rfl, rfl, rfl, trivial⟩) dX11_found_71
set_option maxHeartbeats 4000000 in
set_option maxRecDepth 100000 in
theorem c_X11_fits (l : Launch) (D : gD) (H0 : gB) (S : Mem) (kc ns : Nat) (h0 : Nat) (i0 i1 i2 i3 : Int32) {u : Nat} {tl : Int} {rho : Nat × Nat} (hI : CI x0 u tl rho S) (kh0 : mK S h0 = 12) : Met l yX11_fits (wsU yX11_fits cX11_fits 7 (some .int)) ({ frames := 5, cells := 0, slots := 0, locals := 111 } : Room) (mP D H0 S kc ns [.ref h0, .int i0, .int i1, .int i2, .int i3]) (mQ D H0 gI (fun r S1 k1 n1 => S = S1 ∧ kc = k1 ∧ ns = n1 ∧ True)) 0 0 (mF H0) := by
  refine r_met (own := RX11) (by decide +kernel) rfl (Nat.le_of_ble_eq_true rfl) ?_
  intro p e s m args below meth c C hr hlk hnm H ls hl hM
  obtain ⟨hx, hb, hml, hown, hts, -, -⟩ := id C
  have hl : lv_has ls 7 [(0, .ref h0), (1, .int i0), (2, .int i1), (3, .int i2), (4, .int i3)] := hl
  have t_m1 : (-1 : Int32).toInt = -1 := by decide
  have t_0 : (0 : Int32).toInt = 0 := by decide
  refine lv_aload_n hx hb dX11_fits_0 rfl (lv_at hl 0 rfl) ?_
  refine lv_iload_n hx hb dX11_fits_1 rfl (lv_at hl 1 rfl) ?_
  refine lv_iload_n hx hb dX11_fits_2 rfl (lv_at hl 2 rfl) ?_
  refine r_V (As := [.int i0, .int i1]) (rest := []) (ci := 11) C hM (c_X11_partOn l D H0 S kc ns h0 i0 i1 hI kh0) i_X11_partOn m_X11_101 kh0 rfl rfl rfl hl.1 rfl (Nat.le_of_ble_eq_true rfl) ⟨by decide, by decide⟩ ⟨by decide, by decide⟩ dX11_fits_3 (fun rv4 Sv1 kv2 nv3 H locs pv5 hM => ?_)
  obtain ⟨rfl, rfl, rfl, krv4⟩ := pv5
  refine W.eq (g2 := F0 m 6 ls [va_rf rv4]) rfl ?_
  refine lv_astoreQ (lv' := [(5, va_rf rv4), (0, .ref h0), (1, .int i0), (2, .int i1), (3, .int i2), (4, .int i3)]) hx hb dX11_fits_6 hl (by decide) rfl (fun ls hl => ?_)
  refine lv_aload_n hx hb dX11_fits_8 rfl (lv_at hl 1 rfl) ?_
  refine lv_iload hx hb dX11_fits_9 (lv_at hl 5 rfl) ?_
  refine r_V (As := [.int i3]) (rest := []) (ci := 11) C hM (c_X11_pageOn l D H0 S kc ns h0 i3 hI kh0) i_X11_pageOn m_X11_173 kh0 rfl rfl rfl hl.1 rfl (Nat.le_of_ble_eq_true rfl) ⟨by decide, by decide⟩ ⟨by decide, by decide⟩ dX11_fits_11 (fun rv9 Sv6 kv7 nv8 H locs pv10 hM => ?_)
  obtain ⟨rfl, rfl, rfl, krv9⟩ := pv10
  refine W.eq (g2 := F0 m 14 ls [va_rf rv9]) rfl ?_
  refine lv_astoreQ (lv' := [(6, va_rf rv9), (5, va_rf rv4), (0, .ref h0), (1, .int i0), (2, .int i1), (3, .int i2), (4, .int i3)]) hx hb dX11_fits_14 hl (by decide) (by simp [cat_rf, cat_i, cat_l, cat_a, cat_n] <;> first | decide | (repeat' (first | rfl | constructor))) (fun ls hl => ?_)
  refine lv_aloadQ hx hb dX11_fits_16 (lv_at hl 1 rfl) ?_
  cases rv4 with
  | none =>
    refine lv_ifnullN (tgt := 33) hx hb dX11_fits_18 (by decide) ?_
    refine lv_iconst (v := -1) hx hb dX11_fits_33 (by decide) ?_
    exact r_retI C hr hlk hM (⟨rfl, rfl, rfl, trivial⟩) dX11_fits_34
  | some qv11 =>
    have kqv11 : mK S qv11 = 6 := krv4 qv11 rfl
    refine lv_ifnull hx hb dX11_fits_18 ?_
    refine lv_aloadQ hx hb dX11_fits_21 (lv_at hl 0 rfl) ?_
    cases rv9 with
    | none =>
      refine lv_ifnullN (tgt := 33) hx hb dX11_fits_23 (by decide) ?_
      refine lv_iconst (v := -1) hx hb dX11_fits_33 (by decide) ?_
      exact r_retI C hr hlk hM (⟨rfl, rfl, rfl, trivial⟩) dX11_fits_34
    | some qv12 =>
      have kqv12 : mK S qv12 = 5 := krv9 qv12 rfl
      refine lv_ifnull hx hb dX11_fits_23 ?_
      refine lv_iload_n hx hb dX11_fits_26 rfl (lv_at hl 5 rfl) ?_
      refine r_S (As := [.int i2]) (rest := []) C hM (c_X11_areMarks l D H0 S kc ns i2) i_X11_areMarks m_X11_193 rfl hl.1 rfl (Nat.le_of_ble_eq_true rfl) ⟨by decide, by decide⟩ ⟨by decide, by decide⟩ dX11_fits_27 (fun xv16 Sv13 kv14 nv15 H locs pv17 hM => ?_)
      obtain ⟨rfl, rfl, rfl, hxv16⟩ := pv17
      refine W.eq (g2 := F0 m 30 ls [.int xv16]) rfl ?_
      refine lv_if_ne (tgt := 35) hx hb dX11_fits_30 (by decide) (fun cv18 => ?_) (fun cv18 => ?_)
      · have tcv18 := eqF cv18
        refine lv_aload hx hb dX11_fits_35 (lv_at hl 0 rfl) ?_
        refine lv_aload hx hb dX11_fits_37 (lv_at hl 1 rfl) ?_
        refine lv_iload_n hx hb dX11_fits_39 rfl (lv_at hl 5 rfl) ?_
        refine r_VN (As := [.ref qv11, .int i2]) (rest := []) (ci := 4) C hM (c_X4_countFitting l D H0 S kc ns qv12 qv11 i2 hI kqv12 kqv11) i_X4_countFitting m_X11_197 kqv12 rfl rfl rfl hl.1 rfl (Nat.le_of_ble_eq_true rfl) ⟨by decide, by decide⟩ ⟨by decide, by decide⟩ dX11_fits_40 (fun xv22 Sv19 kv20 nv21 H locs pv23 hM => ?_)
        obtain ⟨rfl, rfl, rfl, hxv22⟩ := pv23
        refine W.eq (g2 := F0 m 43 ls [.int xv22]) rfl ?_
        exact r_retI C hr hlk hM (⟨rfl, rfl, rfl, trivial⟩) dX11_fits_43
      · have tcv18 := eqT cv18
        refine lv_iconst (v := -1) hx hb dX11_fits_33 (by decide) ?_
        exact r_retI C hr hlk hM (⟨rfl, rfl, rfl, trivial⟩) dX11_fits_34
set_option maxHeartbeats 4000000 in
set_option maxRecDepth 100000 in
theorem c_X11_fit (l : Launch) (D : gD) (H0 : gB) (S : Mem) (kc ns : Nat) (h0 : Nat) (i0 i1 i2 i3 i4 : Int32) {u : Nat} {tl : Int} {rho : Nat × Nat} (hI : CI x0 u tl rho S) (kh0 : mK S h0 = 12) : Met l yX11_fit (wsU yX11_fit cX11_fit 8 (some .int)) ({ frames := 5, cells := 0, slots := 0, locals := 112 } : Room) (mP D H0 S kc ns [.ref h0, .int i0, .int i1, .int i2, .int i3, .int i4]) (mQ D H0 gI (fun r S1 k1 n1 => S = S1 ∧ kc = k1 ∧ ns = n1 ∧ True)) 0 0 (mF H0) := by
  refine r_met (own := RX11) (by decide +kernel) rfl (Nat.le_of_ble_eq_true rfl) ?_
  intro p e s m args below meth c C hr hlk hnm H ls hl hM
  obtain ⟨hx, hb, hml, hown, hts, -, -⟩ := id C
  have hl : lv_has ls 8 [(0, .ref h0), (1, .int i0), (2, .int i1), (3, .int i2), (4, .int i3), (5, .int i4)] := hl
  have t_m1 : (-1 : Int32).toInt = -1 := by decide
  have t_0 : (0 : Int32).toInt = 0 := by decide
  refine lv_aload_n hx hb dX11_fit_0 rfl (lv_at hl 0 rfl) ?_
  refine lv_iload_n hx hb dX11_fit_1 rfl (lv_at hl 1 rfl) ?_
  refine lv_iload_n hx hb dX11_fit_2 rfl (lv_at hl 2 rfl) ?_
  refine r_V (As := [.int i0, .int i1]) (rest := []) (ci := 11) C hM (c_X11_partOn l D H0 S kc ns h0 i0 i1 hI kh0) i_X11_partOn m_X11_101 kh0 rfl rfl rfl hl.1 rfl (Nat.le_of_ble_eq_true rfl) ⟨by decide, by decide⟩ ⟨by decide, by decide⟩ dX11_fit_3 (fun rv4 Sv1 kv2 nv3 H locs pv5 hM => ?_)
  obtain ⟨rfl, rfl, rfl, krv4⟩ := pv5
  refine W.eq (g2 := F0 m 6 ls [va_rf rv4]) rfl ?_
  refine lv_astoreQ (lv' := [(6, va_rf rv4), (0, .ref h0), (1, .int i0), (2, .int i1), (3, .int i2), (4, .int i3), (5, .int i4)]) hx hb dX11_fit_6 hl (by decide) rfl (fun ls hl => ?_)
  refine lv_aload_n hx hb dX11_fit_8 rfl (lv_at hl 1 rfl) ?_
  refine lv_iload hx hb dX11_fit_9 (lv_at hl 5 rfl) ?_
  refine r_V (As := [.int i3]) (rest := []) (ci := 11) C hM (c_X11_pageOn l D H0 S kc ns h0 i3 hI kh0) i_X11_pageOn m_X11_173 kh0 rfl rfl rfl hl.1 rfl (Nat.le_of_ble_eq_true rfl) ⟨by decide, by decide⟩ ⟨by decide, by decide⟩ dX11_fit_11 (fun rv9 Sv6 kv7 nv8 H locs pv10 hM => ?_)
  obtain ⟨rfl, rfl, rfl, krv9⟩ := pv10
  refine W.eq (g2 := F0 m 14 ls [va_rf rv9]) rfl ?_
  refine lv_astoreQ (lv' := [(7, va_rf rv9), (6, va_rf rv4), (0, .ref h0), (1, .int i0), (2, .int i1), (3, .int i2), (4, .int i3), (5, .int i4)]) hx hb dX11_fit_14 hl (by decide) (by simp [cat_rf, cat_i, cat_l, cat_a, cat_n] <;> first | decide | (repeat' (first | rfl | constructor))) (fun ls hl => ?_)
  refine lv_aloadQ hx hb dX11_fit_16 (lv_at hl 1 rfl) ?_
  cases rv4 with
  | none =>
    refine lv_ifnullN (tgt := 33) hx hb dX11_fit_18 (by decide) ?_
    refine lv_iconst (v := -1) hx hb dX11_fit_33 (by decide) ?_
    exact r_retI C hr hlk hM (⟨rfl, rfl, rfl, trivial⟩) dX11_fit_34
  | some qv11 =>
    have kqv11 : mK S qv11 = 6 := krv4 qv11 rfl
    refine lv_ifnull hx hb dX11_fit_18 ?_
    refine lv_aloadQ hx hb dX11_fit_21 (lv_at hl 0 rfl) ?_
    cases rv9 with
    | none =>
      refine lv_ifnullN (tgt := 33) hx hb dX11_fit_23 (by decide) ?_
      refine lv_iconst (v := -1) hx hb dX11_fit_33 (by decide) ?_
      exact r_retI C hr hlk hM (⟨rfl, rfl, rfl, trivial⟩) dX11_fit_34
    | some qv12 =>
      have kqv12 : mK S qv12 = 5 := krv9 qv12 rfl
      refine lv_ifnull hx hb dX11_fit_23 ?_
      refine lv_iload_n hx hb dX11_fit_26 rfl (lv_at hl 5 rfl) ?_
      refine r_S (As := [.int i2]) (rest := []) C hM (c_X11_areMarks l D H0 S kc ns i2) i_X11_areMarks m_X11_193 rfl hl.1 rfl (Nat.le_of_ble_eq_true rfl) ⟨by decide, by decide⟩ ⟨by decide, by decide⟩ dX11_fit_27 (fun xv16 Sv13 kv14 nv15 H locs pv17 hM => ?_)
      obtain ⟨rfl, rfl, rfl, hxv16⟩ := pv17
      refine W.eq (g2 := F0 m 30 ls [.int xv16]) rfl ?_
      refine lv_if_ne (tgt := 35) hx hb dX11_fit_30 (by decide) (fun cv18 => ?_) (fun cv18 => ?_)
      · have tcv18 := eqF cv18
        refine lv_aload hx hb dX11_fit_35 (lv_at hl 0 rfl) ?_
        refine lv_aload hx hb dX11_fit_37 (lv_at hl 1 rfl) ?_
        refine lv_iload_n hx hb dX11_fit_39 rfl (lv_at hl 5 rfl) ?_
        refine lv_iload hx hb dX11_fit_40 (lv_at hl 7 rfl) ?_
        refine r_VN (As := [.ref qv11, .int i2, .int i4]) (rest := []) (ci := 4) C hM (c_X4_fitting l D H0 S kc ns qv12 qv11 i2 i4 hI kqv12 kqv11) i_X4_fitting m_X11_201 kqv12 rfl rfl rfl hl.1 rfl (Nat.le_of_ble_eq_true rfl) ⟨by decide, by decide⟩ ⟨by decide, by decide⟩ dX11_fit_42 (fun rv22 Sv19 kv20 nv21 H locs pv23 hM => ?_)
        obtain ⟨rfl, rfl, rfl, krv22⟩ := pv23
        refine W.eq (g2 := F0 m 45 ls [va_rf rv22]) rfl ?_
        refine r_S (As := [va_rf rv22]) (rest := []) C hM (c_X11_numberOf l D H0 S kc ns rv22 hI (krv22)) i_X11_numberOf m_X11_111 rfl hl.1 rfl (Nat.le_of_ble_eq_true rfl) ⟨by decide, by decide⟩ ⟨by decide, by decide⟩ dX11_fit_45 (fun xv27 Sv24 kv25 nv26 H locs pv28 hM => ?_)
        obtain ⟨rfl, rfl, rfl, hxv27⟩ := pv28
        refine W.eq (g2 := F0 m 48 ls [.int xv27]) rfl ?_
        exact r_retI C hr hlk hM (⟨rfl, rfl, rfl, trivial⟩) dX11_fit_48
      · have tcv18 := eqT cv18
        refine lv_iconst (v := -1) hx hb dX11_fit_33 (by decide) ?_
        exact r_retI C hr hlk hM (⟨rfl, rfl, rfl, trivial⟩) dX11_fit_34
set_option maxHeartbeats 4000000 in
set_option maxRecDepth 100000 in
theorem c_X11_stays (l : Launch) (D : gD) (H0 : gB) (S : Mem) (kc ns : Nat) (h0 : Nat) {u : Nat} {tl : Int} {rho : Nat × Nat} (hI : CI x0 u tl rho S) (kh0 : mK S h0 = 12) : Met l yX11_stays (wsU yX11_stays cX11_stays 1 (some .int)) ({ frames := 0, cells := 0, slots := 0, locals := 0 } : Room) (mP D H0 S kc ns [.ref h0]) (mQ D H0 gI (fun r S1 k1 n1 => S = S1 ∧ kc = k1 ∧ ns = n1 ∧ True)) 0 0 (mF H0) := by
  refine r_met (own := RX11) (by decide +kernel) rfl (Nat.le_of_ble_eq_true rfl) ?_
  intro p e s m args below meth c C hr hlk hnm H ls hl hM
  obtain ⟨hx, hb, hml, hown, hts, -, -⟩ := id C
  have hl : lv_has ls 1 [(0, .ref h0)] := hl
  have t_0 : (0 : Int32).toInt = 0 := by decide
  refine lv_aload_n hx hb dX11_stays_0 rfl (lv_at hl 0 rfl) ?_
  obtain ⟨qv1, eqv1, kqv1, nqv1⟩ := TI.nn hI.1 (ci := 11) (k := 7) kh0
  refine r_get (ci := 11) (k := 7) (v := .ref qv1) C hM kh0 f_X11_54 (congrArg va_rf eqv1) dX11_stays_1 ?_
  refine r_getN (ci := 8) (k := 3) (v := .int (mI S 803 qv1)) C hM kqv1 f_X11_213 rfl dX11_stays_4 ?_
  refine lv_topi (fun xv2 exv2 => ?_)
  exact r_retI C hr hlk hM (⟨rfl, rfl, rfl, trivial⟩) dX11_stays_7
set_option maxHeartbeats 4000000 in
set_option maxRecDepth 100000 in
theorem c_X11_learnt (l : Launch) (D : gD) (H0 : gB) (S : Mem) (kc ns : Nat) (h0 : Nat) {u : Nat} {tl : Int} {rho : Nat × Nat} (hI : CI x0 u tl rho S) (kh0 : mK S h0 = 12) : Met l yX11_learnt (wsU yX11_learnt cX11_learnt 1 (some .int)) ({ frames := 2, cells := 0, slots := 0, locals := 44 } : Room) (mP D H0 S kc ns [.ref h0]) (mQ D H0 gI (fun r S1 k1 n1 => S = S1 ∧ kc = k1 ∧ ns = n1 ∧ True)) 0 0 (mF H0) := by
  refine r_met (own := RX11) (by decide +kernel) rfl (Nat.le_of_ble_eq_true rfl) ?_
  intro p e s m args below meth c C hr hlk hnm H ls hl hM
  obtain ⟨hx, hb, hml, hown, hts, -, -⟩ := id C
  have hl : lv_has ls 1 [(0, .ref h0)] := hl
  have t_0 : (0 : Int32).toInt = 0 := by decide
  refine lv_aload_n hx hb dX11_learnt_0 rfl (lv_at hl 0 rfl) ?_
  obtain ⟨qv1, eqv1, kqv1, nqv1⟩ := TI.nn hI.1 (ci := 11) (k := 7) kh0
  refine r_get (ci := 11) (k := 7) (v := .ref qv1) C hM kh0 f_X11_54 (congrArg va_rf eqv1) dX11_learnt_1 ?_
  refine r_VN (As := []) (rest := []) (ci := 8) C hM (c_X8_leastMarks l D H0 S kc ns qv1 hI kqv1) i_X8_leastMarks m_X11_216 kqv1 rfl rfl rfl hl.1 rfl (Nat.le_of_ble_eq_true rfl) ⟨by decide, by decide⟩ ⟨by decide, by decide⟩ dX11_learnt_4 (fun xv5 Sv2 kv3 nv4 H locs pv6 hM => ?_)
  obtain ⟨rfl, rfl, rfl, hxv5⟩ := pv6
  refine W.eq (g2 := F0 m 7 ls [.int xv5]) rfl ?_
  exact r_retI C hr hlk hM (⟨rfl, rfl, rfl, trivial⟩) dX11_learnt_7
set_option maxHeartbeats 4000000 in
set_option maxRecDepth 100000 in
theorem c_X11_seen (l : Launch) (D : gD) (H0 : gB) (S : Mem) (kc ns : Nat) (h0 : Nat) (i0 : Int32) {u : Nat} {tl : Int} {rho : Nat × Nat} (hI : CI x0 u tl rho S) (kh0 : mK S h0 = 12) : Met l yX11_seen (wsU yX11_seen cX11_seen 6 (some .int)) ({ frames := 5, cells := 0, slots := 0, locals := 112 } : Room) (mP D H0 S kc ns [.ref h0, .int i0]) (mQ D H0 gI (fun r S1 k1 n1 => S = S1 ∧ kc = k1 ∧ ns = n1 ∧ True)) 0 0 (mF H0) := by
  refine r_met (own := RX11) (by decide +kernel) rfl (Nat.le_of_ble_eq_true rfl) ?_
  intro p e s m args below meth c C hr hlk hnm H ls hl hM
  obtain ⟨hx, hb, hml, hown, hts, -, -⟩ := id C
  have hl : lv_has ls 6 [(0, .ref h0), (1, .int i0)] := hl
  have t_m3 : (-3 : Int32).toInt = -3 := by decide
  have t_m2 : (-2 : Int32).toInt = -2 := by decide
  have t_m1 : (-1 : Int32).toInt = -1 := by decide
  have t_0 : (0 : Int32).toInt = 0 := by decide
  have t_1 : (1 : Int32).toInt = 1 := by decide
  refine lv_aload_n hx hb dX11_seen_0 rfl (lv_at hl 0 rfl) ?_
  refine lv_iload_n hx hb dX11_seen_1 rfl (lv_at hl 1 rfl) ?_
  refine r_V (As := [.int i0]) (rest := []) (ci := 11) C hM (c_X11_pageOn l D H0 S kc ns h0 i0 hI kh0) i_X11_pageOn m_X11_173 kh0 rfl rfl rfl hl.1 rfl (Nat.le_of_ble_eq_true rfl) ⟨by decide, by decide⟩ ⟨by decide, by decide⟩ dX11_seen_2 (fun rv4 Sv1 kv2 nv3 H locs pv5 hM => ?_)
  obtain ⟨rfl, rfl, rfl, krv4⟩ := pv5
  refine W.eq (g2 := F0 m 5 ls [va_rf rv4]) rfl ?_
  refine lv_astore_nQ (lv' := [(2, va_rf rv4), (0, .ref h0), (1, .int i0)]) hx hb dX11_seen_5 rfl hl (by decide) rfl (fun ls hl => ?_)
  refine lv_aload_n hx hb dX11_seen_6 rfl (lv_at hl 1 rfl) ?_
  obtain ⟨qv6, eqv6, kqv6, nqv6⟩ := TI.nn hI.1 (ci := 11) (k := 7) kh0
  refine r_get (ci := 11) (k := 7) (v := .ref qv6) C hM kh0 f_X11_54 (congrArg va_rf eqv6) dX11_seen_7 ?_
  refine r_VN (As := []) (rest := []) (ci := 8) C hM (c_X8_first l D H0 S kc ns qv6 hI kqv6) i_X8_first m_X11_220 kqv6 rfl rfl rfl hl.1 rfl (Nat.le_of_ble_eq_true rfl) ⟨by decide, by decide⟩ ⟨by decide, by decide⟩ dX11_seen_10 (fun rv10 Sv7 kv8 nv9 H locs pv11 hM => ?_)
  obtain ⟨rfl, rfl, rfl, krv10⟩ := pv11
  refine W.eq (g2 := F0 m 13 ls [va_rf rv10]) rfl ?_
  refine lv_astore_nQ (lv' := [(3, va_rf rv10), (2, va_rf rv4), (0, .ref h0), (1, .int i0)]) hx hb dX11_seen_13 rfl hl (by decide) (by simp [cat_rf, cat_i, cat_l, cat_a, cat_n] <;> first | decide | (repeat' (first | rfl | constructor))) (fun ls hl => ?_)
  refine lv_aload_n hx hb dX11_seen_14 rfl (lv_at hl 2 rfl) ?_
  refine r_get (ci := 11) (k := 7) (v := .ref qv6) C hM kh0 f_X11_54 (congrArg va_rf (eqv6)) dX11_seen_15 ?_
  refine r_VN (As := []) (rest := []) (ci := 8) C hM (c_X8_leastMarks l D H0 S kc ns qv6 hI kqv6) i_X8_leastMarks m_X11_216 kqv6 rfl rfl rfl hl.1 rfl (Nat.le_of_ble_eq_true rfl) ⟨by decide, by decide⟩ ⟨by decide, by decide⟩ dX11_seen_18 (fun xv15 Sv12 kv13 nv14 H locs pv16 hM => ?_)
  obtain ⟨rfl, rfl, rfl, hxv15⟩ := pv16
  refine W.eq (g2 := F0 m 21 ls [.int xv15]) rfl ?_
  refine lv_istore (lv' := [(4, .int xv15), (3, va_rf rv10), (2, va_rf rv4), (0, .ref h0), (1, .int i0)]) hx hb dX11_seen_21 hl (by decide) (by simp [cat_rf, cat_i, cat_l, cat_a, cat_n] <;> first | decide | (repeat' (first | rfl | constructor))) (fun ls hl => ?_)
  refine lv_aload_nQ hx hb dX11_seen_23 rfl (lv_at hl 2 rfl) ?_
  cases rv4 with
  | none =>
    refine lv_ifnullN (tgt := 37) hx hb dX11_seen_24 (by decide) ?_
    refine lv_iconst (v := -1) hx hb dX11_seen_37 (by decide) ?_
    exact r_retI C hr hlk hM (⟨rfl, rfl, rfl, trivial⟩) dX11_seen_38
  | some qv17 =>
    have kqv17 : mK S qv17 = 5 := krv4 qv17 rfl
    refine lv_ifnull hx hb dX11_seen_24 ?_
    refine lv_aload_nQ hx hb dX11_seen_27 rfl (lv_at hl 1 rfl) ?_
    cases rv10 with
    | none =>
      refine lv_ifnullN (tgt := 37) hx hb dX11_seen_28 (by decide) ?_
      refine lv_iconst (v := -1) hx hb dX11_seen_37 (by decide) ?_
      exact r_retI C hr hlk hM (⟨rfl, rfl, rfl, trivial⟩) dX11_seen_38
    | some qv18 =>
      have kqv18 : mK S qv18 = 6 := krv10 qv18 rfl
      refine lv_ifnull hx hb dX11_seen_28 ?_
      refine lv_iload hx hb dX11_seen_31 (lv_at hl 0 rfl) ?_
      refine lv_iconst (v := -1) hx hb dX11_seen_33 (by decide) ?_
      refine lv_icmp_ne (tgt := 39) hx hb dX11_seen_34 (by decide) (fun cv19 => ?_) (fun cv19 => ?_)
      · have tcv19 := eqF cv19
        refine lv_aload_n hx hb dX11_seen_39 rfl (lv_at hl 2 rfl) ?_
        refine lv_aload_n hx hb dX11_seen_40 rfl (lv_at hl 1 rfl) ?_
        refine lv_iload hx hb dX11_seen_41 (lv_at hl 0 rfl) ?_
        refine r_VN (As := [.ref qv18, .int xv15]) (rest := []) (ci := 4) C hM (c_X4_countFitting l D H0 S kc ns qv17 qv18 xv15 hI kqv17 kqv18) i_X4_countFitting m_X11_197 kqv17 rfl rfl rfl hl.1 rfl (Nat.le_of_ble_eq_true rfl) ⟨by decide, by decide⟩ ⟨by decide, by decide⟩ dX11_seen_43 (fun xv23 Sv20 kv21 nv22 H locs pv24 hM => ?_)
        obtain ⟨rfl, rfl, rfl, hxv23⟩ := pv24
        refine W.eq (g2 := F0 m 46 ls [.int xv23]) rfl ?_
        refine lv_istore (lv' := [(5, .int xv23), (4, .int xv15), (3, .ref qv18), (2, .ref qv17), (0, .ref h0), (1, .int i0)]) hx hb dX11_seen_46 hl (by decide) rfl (fun ls hl => ?_)
        refine lv_iload hx hb dX11_seen_48 (lv_at hl 0 rfl) ?_
        refine lv_if_ne (tgt := 56) hx hb dX11_seen_50 (by decide) (fun cv25 => ?_) (fun cv25 => ?_)
        · have tcv25 := eqF cv25
          refine lv_iload hx hb dX11_seen_56 (lv_at hl 0 rfl) ?_
          refine lv_iconst (v := 1) hx hb dX11_seen_58 (by decide) ?_
          refine lv_icmp_le (tgt := 67) hx hb dX11_seen_59 (by decide) (fun cv26 => ?_) (fun cv26 => ?_)
          · have tcv26 := leT cv26
            refine lv_aload_n hx hb dX11_seen_67 rfl (lv_at hl 3 rfl) ?_
            refine lv_aload_n hx hb dX11_seen_68 rfl (lv_at hl 2 rfl) ?_
            refine lv_iload hx hb dX11_seen_69 (lv_at hl 1 rfl) ?_
            refine lv_iconst (v := 0) hx hb dX11_seen_71 (by decide) ?_
            refine r_VN (As := [.ref qv18, .int xv15, .int 0]) (rest := []) (ci := 4) C hM (c_X4_fitting l D H0 S kc ns qv17 qv18 xv15 0 hI kqv17 kqv18) i_X4_fitting m_X11_201 kqv17 rfl rfl rfl hl.1 rfl (Nat.le_of_ble_eq_true rfl) ⟨by decide, by decide⟩ ⟨by decide, by decide⟩ dX11_seen_72 (fun rv30 Sv27 kv28 nv29 H locs pv31 hM => ?_)
            obtain ⟨rfl, rfl, rfl, krv30⟩ := pv31
            refine W.eq (g2 := F0 m 75 ls [va_rf rv30]) rfl ?_
            refine r_S (As := [va_rf rv30]) (rest := []) C hM (c_X11_numberOf l D H0 S kc ns rv30 hI (krv30)) i_X11_numberOf m_X11_111 rfl hl.1 rfl (Nat.le_of_ble_eq_true rfl) ⟨by decide, by decide⟩ ⟨by decide, by decide⟩ dX11_seen_75 (fun xv35 Sv32 kv33 nv34 H locs pv36 hM => ?_)
            obtain ⟨rfl, rfl, rfl, hxv35⟩ := pv36
            refine W.eq (g2 := F0 m 78 ls [.int xv35]) rfl ?_
            exact r_retI C hr hlk hM (⟨rfl, rfl, rfl, trivial⟩) dX11_seen_78
          · have tcv26 := leF cv26
            refine lv_bipush (v := -2) hx hb dX11_seen_62 (by decide) ?_
            refine lv_goto (tgt := 78) hx hb dX11_seen_64 (by decide) ?_
            exact r_retI C hr hlk hM (⟨rfl, rfl, rfl, trivial⟩) dX11_seen_78
        · have tcv25 := eqT cv25
          refine lv_bipush (v := -3) hx hb dX11_seen_53 (by decide) ?_
          exact r_retI C hr hlk hM (⟨rfl, rfl, rfl, trivial⟩) dX11_seen_55
      · have tcv19 := eqT cv19
        refine lv_iconst (v := -1) hx hb dX11_seen_37 (by decide) ?_
        exact r_retI C hr hlk hM (⟨rfl, rfl, rfl, trivial⟩) dX11_seen_38
set_option maxHeartbeats 4000000 in
set_option maxRecDepth 100000 in
theorem c_X11_ran (l : Launch) (D : gD) (H0 : gB) (S : Mem) (kc ns : Nat) (h0 : Nat) (i0 : Int32) {u : Nat} {tl : Int} {rho : Nat × Nat} (hI : CI x0 u tl rho S) (kh0 : mK S h0 = 12) : Met l yX11_ran (wsU yX11_ran cX11_ran 2 (some .int)) ({ frames := 1, cells := 0, slots := 0, locals := 20 } : Room) (mP D H0 S kc ns [.ref h0, .int i0]) (mQ D H0 gI (fun r S1 k1 n1 => S = S1 ∧ kc = k1 ∧ ns = n1 ∧ True)) 0 0 (mF H0) := by
  refine r_met (own := RX11) (by decide +kernel) rfl (Nat.le_of_ble_eq_true rfl) ?_
  intro p e s m args below meth c C hr hlk hnm H ls hl hM
  obtain ⟨hx, hb, hml, hown, hts, -, -⟩ := id C
  have hl : lv_has ls 2 [(0, .ref h0), (1, .int i0)] := hl
  have t_m1 : (-1 : Int32).toInt = -1 := by decide
  have t_0 : (0 : Int32).toInt = 0 := by decide
  refine lv_aload_n hx hb dX11_ran_0 rfl (lv_at hl 0 rfl) ?_
  obtain ⟨qv1, eqv1, kqv1, nqv1⟩ := TI.nn hI.1 (ci := 11) (k := 9) kh0
  refine r_get (ci := 11) (k := 9) (v := .ref qv1) C hM kh0 f_X11_67 (congrArg va_rf eqv1) dX11_ran_1 ?_
  refine r_getN (ci := 7) (k := 1) (v := .int (mI S 701 qv1)) C hM kqv1 f_X11_252 rfl dX11_ran_4 ?_
  refine lv_topi (fun xv2 exv2 => ?_)
  refine lv_if_ne (tgt := 12) hx hb dX11_ran_7 (by decide) (fun cv3 => ?_) (fun cv3 => ?_)
  · have tcv3 := eqF cv3
    refine lv_iload_n hx hb dX11_ran_12 rfl (lv_at hl 1 rfl) ?_
    by_cases hv4_0 : i0.toInt = 0
    · refine lv_tableIn (off := 31) (tgt := 44) hx hb dX11_ran_13 (by omega) (by omega) (by rw [hv4_0]; rfl) (by decide) ?_
      refine lv_aload_n hx hb dX11_ran_44 rfl (lv_at hl 0 rfl) ?_
      refine r_get (ci := 11) (k := 9) (v := .ref qv1) C hM kh0 f_X11_67 (congrArg va_rf (eqv1)) dX11_ran_45 ?_
      refine r_getN (ci := 7) (k := 2) (v := .int (mI S 702 qv1)) C hM kqv1 f_X11_255 rfl dX11_ran_48 ?_
      refine lv_topi (fun xv5 exv5 => ?_)
      exact r_retI C hr hlk hM (⟨rfl, rfl, rfl, trivial⟩) dX11_ran_51
    by_cases hv4_1 : i0.toInt = 1
    · refine lv_tableIn (off := 39) (tgt := 52) hx hb dX11_ran_13 (by omega) (by omega) (by rw [hv4_1]; rfl) (by decide) ?_
      refine lv_aload_n hx hb dX11_ran_52 rfl (lv_at hl 0 rfl) ?_
      refine r_get (ci := 11) (k := 9) (v := .ref qv1) C hM kh0 f_X11_67 (congrArg va_rf (eqv1)) dX11_ran_53 ?_
      refine r_getN (ci := 7) (k := 3) C hM kqv1 f_X11_258 rfl dX11_ran_56 ?_
      obtain ⟨rv6, erv6, krv6⟩ : ∃ r : Option Nat, mR S 703 qv1 = r ∧ ∀ q, r = some q → mK S q = 6 := ⟨_, rfl, TI.opt hI.1 (ci := 7) (k := 3) kqv1⟩
      refine W.eq (g2 := F0 m 59 ls [va_rf rv6]) (by rw [← erv6]; rfl) ?_
      refine r_S (As := [va_rf rv6]) (rest := []) C hM (c_X11_numberOf l D H0 S kc ns rv6 hI (krv6)) i_X11_numberOf m_X11_111 rfl hl.1 rfl (Nat.le_of_ble_eq_true rfl) ⟨by decide, by decide⟩ ⟨by decide, by decide⟩ dX11_ran_59 (fun xv10 Sv7 kv8 nv9 H locs pv11 hM => ?_)
      obtain ⟨rfl, rfl, rfl, hxv10⟩ := pv11
      refine W.eq (g2 := F0 m 62 ls [.int xv10]) rfl ?_
      exact r_retI C hr hlk hM (⟨rfl, rfl, rfl, trivial⟩) dX11_ran_62
    by_cases hv4_2 : i0.toInt = 2
    · refine lv_tableIn (off := 50) (tgt := 63) hx hb dX11_ran_13 (by omega) (by omega) (by rw [hv4_2]; rfl) (by decide) ?_
      refine lv_aload_n hx hb dX11_ran_63 rfl (lv_at hl 0 rfl) ?_
      refine r_get (ci := 11) (k := 9) (v := .ref qv1) C hM kh0 f_X11_67 (congrArg va_rf (eqv1)) dX11_ran_64 ?_
      refine r_getN (ci := 7) (k := 4) (v := .int (mI S 704 qv1)) C hM kqv1 f_X11_261 rfl dX11_ran_67 ?_
      refine lv_topi (fun xv12 exv12 => ?_)
      exact r_retI C hr hlk hM (⟨rfl, rfl, rfl, trivial⟩) dX11_ran_70
    by_cases hv4_3 : i0.toInt = 3
    · refine lv_tableIn (off := 58) (tgt := 71) hx hb dX11_ran_13 (by omega) (by omega) (by rw [hv4_3]; rfl) (by decide) ?_
      refine lv_aload_n hx hb dX11_ran_71 rfl (lv_at hl 0 rfl) ?_
      refine r_get (ci := 11) (k := 9) (v := .ref qv1) C hM kh0 f_X11_67 (congrArg va_rf (eqv1)) dX11_ran_72 ?_
      refine r_getN (ci := 7) (k := 5) (v := .int (mI S 705 qv1)) C hM kqv1 f_X11_262 rfl dX11_ran_75 ?_
      refine lv_topi (fun xv13 exv13 => ?_)
      have fxv13 := NI.g705 hI.2 kqv1 exv13
      exact r_retI C hr hlk hM (⟨rfl, rfl, rfl, trivial⟩) dX11_ran_78
    refine lv_tableOut (tgt := 79) hx hb dX11_ran_13 (by omega) (by decide) ?_
    refine lv_iconst (v := -1) hx hb dX11_ran_79 (by decide) ?_
    exact r_retI C hr hlk hM (⟨rfl, rfl, rfl, trivial⟩) dX11_ran_80
  · have tcv3 := eqT cv3
    refine lv_iconst (v := -1) hx hb dX11_ran_10 (by decide) ?_
    exact r_retI C hr hlk hM (⟨rfl, rfl, rfl, trivial⟩) dX11_ran_11
set_option maxHeartbeats 4000000 in
set_option maxRecDepth 100000 in
theorem c_X11_read (l : Launch) (D : gD) (H0 : gB) (S : Mem) (kc ns : Nat) (h0 : Nat) (i0 i1 : Int32) {u : Nat} {tl : Int} {rho : Nat × Nat} (hI : CI x0 u tl rho S) (kh0 : mK S h0 = 12) : Met l yX11_read (wsU yX11_read cX11_read 4 (some .int)) ({ frames := 1, cells := 0, slots := 0, locals := 24 } : Room) (mP D H0 S kc ns [.ref h0, .int i0, .int i1]) (mQ D H0 gI (fun r S1 k1 n1 => S = S1 ∧ kc = k1 ∧ ns = n1 ∧ True)) 0 0 (mF H0) := by
  refine r_met (own := RX11) (by decide +kernel) rfl (Nat.le_of_ble_eq_true rfl) ?_
  intro p e s m args below meth c C hr hlk hnm H ls hl hM
  obtain ⟨hx, hb, hml, hown, hts, -, -⟩ := id C
  have hl : lv_has ls 4 [(0, .ref h0), (1, .int i0), (2, .int i1)] := hl
  have t_m1 : (-1 : Int32).toInt = -1 := by decide
  have t_0 : (0 : Int32).toInt = 0 := by decide
  refine lv_aload_n hx hb dX11_read_0 rfl (lv_at hl 0 rfl) ?_
  obtain ⟨qv1, eqv1, kqv1, nqv1⟩ := TI.nn hI.1 (ci := 11) (k := 9) kh0
  refine r_get (ci := 11) (k := 9) (v := .ref qv1) C hM kh0 f_X11_67 (congrArg va_rf eqv1) dX11_read_1 ?_
  refine lv_iload_n hx hb dX11_read_4 rfl (lv_at hl 1 rfl) ?_
  refine r_VN (As := [.int i0]) (rest := []) (ci := 7) C hM (c_X7_keptAt l D H0 S kc ns qv1 i0 hI kqv1) i_X7_keptAt m_X11_265 kqv1 rfl rfl rfl hl.1 rfl (Nat.le_of_ble_eq_true rfl) ⟨by decide, by decide⟩ ⟨by decide, by decide⟩ dX11_read_5 (fun rv5 Sv2 kv3 nv4 H locs pv6 hM => ?_)
  obtain ⟨rfl, rfl, rfl, krv5⟩ := pv6
  refine W.eq (g2 := F0 m 8 ls [va_rf rv5]) rfl ?_
  refine lv_astore_nQ (lv' := [(3, va_rf rv5), (0, .ref h0), (1, .int i0), (2, .int i1)]) hx hb dX11_read_8 rfl hl (by decide) rfl (fun ls hl => ?_)
  refine lv_aload_nQ hx hb dX11_read_9 rfl (lv_at hl 0 rfl) ?_
  cases rv5 with
  | none =>
    refine lv_ifnonnullN hx hb dX11_read_10 ?_
    refine lv_iconst (v := -1) hx hb dX11_read_13 (by decide) ?_
    refine lv_goto (tgt := 22) hx hb dX11_read_14 (by decide) ?_
    exact r_retI C hr hlk hM (⟨rfl, rfl, rfl, trivial⟩) dX11_read_22
  | some qv7 =>
    have kqv7 : mK S qv7 = 6 := krv5 qv7 rfl
    refine lv_ifnonnull (tgt := 17) hx hb dX11_read_10 (by decide) ?_
    refine lv_aload_n hx hb dX11_read_17 rfl (lv_at hl 0 rfl) ?_
    refine lv_iload_n hx hb dX11_read_18 rfl (lv_at hl 3 rfl) ?_
    refine r_VN (As := [.int i1]) (rest := []) (ci := 5) C hM (c_X5_textByte l D H0 S kc ns qv7 i1 hI kqv7) i_X5_textByte m_X11_154 kqv7 rfl rfl rfl hl.1 rfl (Nat.le_of_ble_eq_true rfl) ⟨by decide, by decide⟩ ⟨by decide, by decide⟩ dX11_read_19 (fun xv11 Sv8 kv9 nv10 H locs pv12 hM => ?_)
    obtain ⟨rfl, rfl, rfl, hxv11⟩ := pv12
    refine W.eq (g2 := F0 m 22 ls [.int xv11]) rfl ?_
    exact r_retI C hr hlk hM (⟨rfl, rfl, rfl, trivial⟩) dX11_read_22
set_option maxHeartbeats 4000000 in
set_option maxRecDepth 100000 in
theorem c_X11_about (l : Launch) (D : gD) (H0 : gB) (S : Mem) (kc ns : Nat) (h0 : Nat) (i0 : Int32) {u : Nat} {tl : Int} {rho : Nat × Nat} (hI : CI x0 u tl rho S) (kh0 : mK S h0 = 12) : Met l yX11_about (wsU yX11_about cX11_about 3 (some .int)) ({ frames := 1, cells := 0, slots := 0, locals := 21 } : Room) (mP D H0 S kc ns [.ref h0, .int i0]) (mQ D H0 gI (fun r S1 k1 n1 => S = S1 ∧ kc = k1 ∧ ns = n1 ∧ True)) 0 0 (mF H0) := by
  refine r_met (own := RX11) (by decide +kernel) rfl (Nat.le_of_ble_eq_true rfl) ?_
  intro p e s m args below meth c C hr hlk hnm H ls hl hM
  obtain ⟨hx, hb, hml, hown, hts, -, -⟩ := id C
  have hl : lv_has ls 3 [(0, .ref h0), (1, .int i0)] := hl
  have t_m1 : (-1 : Int32).toInt = -1 := by decide
  have t_0 : (0 : Int32).toInt = 0 := by decide
  have t_10 : (10 : Int32).toInt = 10 := by decide
  have t_14 : (14 : Int32).toInt = 14 := by decide
  refine lv_iload_n hx hb dX11_about_0 rfl (lv_at hl 1 rfl) ?_
  refine lv_bipush (v := 10) hx hb dX11_about_1 (by decide) ?_
  refine lv_icmp_lt (tgt := 34) hx hb dX11_about_3 (by decide) (fun cv1 => ?_) (fun cv1 => ?_)
  · have tcv1 := ltT cv1
    refine lv_iload_n hx hb dX11_about_34 rfl (lv_at hl 1 rfl) ?_
    by_cases hv2_0 : i0.toInt = 0
    · refine lv_tableIn (off := 29) (tgt := 64) hx hb dX11_about_35 (by omega) (by omega) (by rw [hv2_0]; rfl) (by decide) ?_
      refine lv_aload_n hx hb dX11_about_64 rfl (lv_at hl 0 rfl) ?_
      refine r_get (ci := 11) (k := 12) (v := .int (mI S 1112 h0)) C hM kh0 f_X11_78 rfl dX11_about_65 ?_
      refine lv_topi (fun xv3 exv3 => ?_)
      exact r_retI C hr hlk hM (⟨rfl, rfl, rfl, trivial⟩) dX11_about_68
    by_cases hv2_1 : i0.toInt = 1
    · refine lv_tableIn (off := 34) (tgt := 69) hx hb dX11_about_35 (by omega) (by omega) (by rw [hv2_1]; rfl) (by decide) ?_
      refine lv_aload_n hx hb dX11_about_69 rfl (lv_at hl 0 rfl) ?_
      obtain ⟨qv4, eqv4, kqv4, nqv4⟩ := TI.nn hI.1 (ci := 11) (k := 7) kh0
      refine r_get (ci := 11) (k := 7) (v := .ref qv4) C hM kh0 f_X11_54 (congrArg va_rf eqv4) dX11_about_70 ?_
      refine r_getN (ci := 8) (k := 2) (v := .int (mI S 802 qv4)) C hM kqv4 f_X11_205 rfl dX11_about_73 ?_
      refine lv_topi (fun xv5 exv5 => ?_)
      have fxv5 := NI.g802 hI.2 kqv4 exv5
      exact r_retI C hr hlk hM (⟨rfl, rfl, rfl, trivial⟩) dX11_about_76
    by_cases hv2_2 : i0.toInt = 2
    · refine lv_tableIn (off := 42) (tgt := 77) hx hb dX11_about_35 (by omega) (by omega) (by rw [hv2_2]; rfl) (by decide) ?_
      refine lv_aload_n hx hb dX11_about_77 rfl (lv_at hl 0 rfl) ?_
      refine r_get (ci := 11) (k := 10) (v := .int (mI S 1110 h0)) C hM kh0 f_X11_71 rfl dX11_about_78 ?_
      refine lv_topi (fun xv6 exv6 => ?_)
      have fxv6 := NI.g1110 hI.2 kh0 exv6
      exact r_retI C hr hlk hM (⟨rfl, rfl, rfl, trivial⟩) dX11_about_81
    by_cases hv2_3 : i0.toInt = 3
    · refine lv_tableIn (off := 47) (tgt := 82) hx hb dX11_about_35 (by omega) (by omega) (by rw [hv2_3]; rfl) (by decide) ?_
      refine lv_aload_n hx hb dX11_about_82 rfl (lv_at hl 0 rfl) ?_
      obtain ⟨qv7, eqv7, kqv7, nqv7⟩ := TI.nn hI.1 (ci := 11) (k := 0) kh0
      refine r_get (ci := 11) (k := 0) (v := .ref qv7) C hM kh0 f_X11_10 (congrArg va_rf eqv7) dX11_about_83 ?_
      refine r_getN (ci := 9) (k := 1) (v := .int (mI S 901 qv7)) C hM kqv7 f_X11_81 rfl dX11_about_86 ?_
      refine lv_topi (fun xv8 exv8 => ?_)
      have fxv8 := NI.g901 hI.2 kqv7 exv8
      exact r_retI C hr hlk hM (⟨rfl, rfl, rfl, trivial⟩) dX11_about_89
    refine lv_tableOut (tgt := 90) hx hb dX11_about_35 (by omega) (by decide) ?_
    refine lv_iconst (v := -1) hx hb dX11_about_90 (by decide) ?_
    exact r_retI C hr hlk hM (⟨rfl, rfl, rfl, trivial⟩) dX11_about_91
  · have tcv1 := ltF cv1
    refine lv_iload_n hx hb dX11_about_6 rfl (lv_at hl 1 rfl) ?_
    refine lv_bipush (v := 14) hx hb dX11_about_7 (by decide) ?_
    refine lv_icmp_ge (tgt := 34) hx hb dX11_about_9 (by decide) (fun cv9 => ?_) (fun cv9 => ?_)
    · have tcv9 := leT cv9
      refine lv_iload_n hx hb dX11_about_34 rfl (lv_at hl 1 rfl) ?_
      by_cases hv10_0 : i0.toInt = 0
      · refine lv_tableIn (off := 29) (tgt := 64) hx hb dX11_about_35 (by omega) (by omega) (by rw [hv10_0]; rfl) (by decide) ?_
        refine lv_aload_n hx hb dX11_about_64 rfl (lv_at hl 0 rfl) ?_
        refine r_get (ci := 11) (k := 12) (v := .int (mI S 1112 h0)) C hM kh0 f_X11_78 rfl dX11_about_65 ?_
        refine lv_topi (fun xv11 exv11 => ?_)
        exact r_retI C hr hlk hM (⟨rfl, rfl, rfl, trivial⟩) dX11_about_68
      by_cases hv10_1 : i0.toInt = 1
      · refine lv_tableIn (off := 34) (tgt := 69) hx hb dX11_about_35 (by omega) (by omega) (by rw [hv10_1]; rfl) (by decide) ?_
        refine lv_aload_n hx hb dX11_about_69 rfl (lv_at hl 0 rfl) ?_
        obtain ⟨qv12, eqv12, kqv12, nqv12⟩ := TI.nn hI.1 (ci := 11) (k := 7) kh0
        refine r_get (ci := 11) (k := 7) (v := .ref qv12) C hM kh0 f_X11_54 (congrArg va_rf eqv12) dX11_about_70 ?_
        refine r_getN (ci := 8) (k := 2) (v := .int (mI S 802 qv12)) C hM kqv12 f_X11_205 rfl dX11_about_73 ?_
        refine lv_topi (fun xv13 exv13 => ?_)
        have fxv13 := NI.g802 hI.2 kqv12 exv13
        exact r_retI C hr hlk hM (⟨rfl, rfl, rfl, trivial⟩) dX11_about_76
      by_cases hv10_2 : i0.toInt = 2
      · refine lv_tableIn (off := 42) (tgt := 77) hx hb dX11_about_35 (by omega) (by omega) (by rw [hv10_2]; rfl) (by decide) ?_
        refine lv_aload_n hx hb dX11_about_77 rfl (lv_at hl 0 rfl) ?_
        refine r_get (ci := 11) (k := 10) (v := .int (mI S 1110 h0)) C hM kh0 f_X11_71 rfl dX11_about_78 ?_
        refine lv_topi (fun xv14 exv14 => ?_)
        have fxv14 := NI.g1110 hI.2 kh0 exv14
        exact r_retI C hr hlk hM (⟨rfl, rfl, rfl, trivial⟩) dX11_about_81
      by_cases hv10_3 : i0.toInt = 3
      · refine lv_tableIn (off := 47) (tgt := 82) hx hb dX11_about_35 (by omega) (by omega) (by rw [hv10_3]; rfl) (by decide) ?_
        refine lv_aload_n hx hb dX11_about_82 rfl (lv_at hl 0 rfl) ?_
        obtain ⟨qv15, eqv15, kqv15, nqv15⟩ := TI.nn hI.1 (ci := 11) (k := 0) kh0
        refine r_get (ci := 11) (k := 0) (v := .ref qv15) C hM kh0 f_X11_10 (congrArg va_rf eqv15) dX11_about_83 ?_
        refine r_getN (ci := 9) (k := 1) (v := .int (mI S 901 qv15)) C hM kqv15 f_X11_81 rfl dX11_about_86 ?_
        refine lv_topi (fun xv16 exv16 => ?_)
        have fxv16 := NI.g901 hI.2 kqv15 exv16
        exact r_retI C hr hlk hM (⟨rfl, rfl, rfl, trivial⟩) dX11_about_89
      refine lv_tableOut (tgt := 90) hx hb dX11_about_35 (by omega) (by decide) ?_
      refine lv_iconst (v := -1) hx hb dX11_about_90 (by decide) ?_
      exact r_retI C hr hlk hM (⟨rfl, rfl, rfl, trivial⟩) dX11_about_91
    · have tcv9 := leF cv9
      refine lv_aload_n hx hb dX11_about_12 rfl (lv_at hl 0 rfl) ?_
      refine lv_iload_n hx hb dX11_about_13 rfl (lv_at hl 1 rfl) ?_
      refine lv_bipush (v := 10) hx hb dX11_about_14 (by decide) ?_
      refine lv_isub hx hb dX11_about_16 ?_
      refine lv_topi (fun xv17 exv17 => ?_)
      try (have txv17 := subI (a := i0) (b := 10) (by omega) (by omega); rw [← exv17] at txv17)
      refine r_V (As := [.int xv17]) (rest := []) (ci := 11) C hM (c_X11_pageOn l D H0 S kc ns h0 xv17 hI kh0) i_X11_pageOn m_X11_173 kh0 rfl rfl rfl hl.1 rfl (Nat.le_of_ble_eq_true rfl) ⟨by decide, by decide⟩ ⟨by decide, by decide⟩ dX11_about_17 (fun rv21 Sv18 kv19 nv20 H locs pv22 hM => ?_)
      obtain ⟨rfl, rfl, rfl, krv21⟩ := pv22
      refine W.eq (g2 := F0 m 20 ls [va_rf rv21]) rfl ?_
      refine lv_astore_nQ (lv' := [(2, va_rf rv21), (0, .ref h0), (1, .int i0)]) hx hb dX11_about_20 rfl hl (by decide) rfl (fun ls hl => ?_)
      refine lv_aload_nQ hx hb dX11_about_21 rfl (lv_at hl 0 rfl) ?_
      cases rv21 with
      | none =>
        refine lv_ifnonnullN hx hb dX11_about_22 ?_
        refine lv_iconst (v := 0) hx hb dX11_about_25 (by decide) ?_
        refine lv_goto (tgt := 33) hx hb dX11_about_26 (by decide) ?_
        exact r_retI C hr hlk hM (⟨rfl, rfl, rfl, trivial⟩) dX11_about_33
      | some qv23 =>
        have kqv23 : mK S qv23 = 5 := krv21 qv23 rfl
        refine lv_ifnonnull (tgt := 29) hx hb dX11_about_22 (by decide) ?_
        refine lv_aload_n hx hb dX11_about_29 rfl (lv_at hl 0 rfl) ?_
        refine r_getN (ci := 4) (k := 1) (v := .int (mI S 401 qv23)) C hM kqv23 f_X11_92 rfl dX11_about_30 ?_
        refine lv_topi (fun xv24 exv24 => ?_)
        have fxv24 := NI.g401 hI.2 kqv23 exv24
        exact r_retI C hr hlk hM (⟨rfl, rfl, rfl, trivial⟩) dX11_about_33
set_option maxHeartbeats 4000000 in
set_option maxRecDepth 100000 in
theorem c_X11_gap (l : Launch) (D : gD) (H0 : gB) (S : Mem) (kc ns : Nat) (h0 : Nat) (i0 : Int32) {u : Nat} {tl : Int} {rho : Nat × Nat} (hI : CI x0 u tl rho S) (kh0 : mK S h0 = 12) : Met l yX11_gap (wsU yX11_gap cX11_gap 2 (some .boolean)) ({ frames := 0, cells := 0, slots := 0, locals := 0 } : Room) (mP D H0 S kc ns [.ref h0, .int i0]) (mQ D H0 gI (fun r S1 k1 n1 => kc = k1 ∧ ns = n1 ∧ mK S1 = mK S ∧ CI x0 u tl rho S1 ∧ ((0 ≤ i0.toInt ∧ i0.toInt ≤ 100) ∧ r = 1 ∨ ¬ (0 ≤ i0.toInt ∧ i0.toInt ≤ 100) ∧ r = 0))) 0 0 (mF H0) := by
  refine r_met (own := RX11) (by decide +kernel) rfl (Nat.le_of_ble_eq_true rfl) ?_
  intro p e s m args below meth c C hr hlk hnm H ls hl hM
  obtain ⟨hx, hb, hml, hown, hts, -, -⟩ := id C
  have hl : lv_has ls 2 [(0, .ref h0), (1, .int i0)] := hl
  have hI0 := hI
  have hK9 : mK S = mK S := rfl
  have t_0 : (0 : Int32).toInt = 0 := by decide
  have t_1 : (1 : Int32).toInt = 1 := by decide
  have t_100 : (100 : Int32).toInt = 100 := by decide
  refine lv_iload_n hx hb dX11_gap_0 rfl (lv_at hl 1 rfl) ?_
  refine lv_if_lt (tgt := 10) hx hb dX11_gap_1 (by decide) (fun cv1 => ?_) (fun cv1 => ?_)
  · have tcv1 := ltT cv1
    refine lv_iconst (v := 0) hx hb dX11_gap_10 (by decide) ?_
    exact r_retZ C hr hlk rfl hM (⟨rfl, rfl, hK9, hI, by first | exact Or.inl ⟨⟨by omega, by omega⟩, rfl⟩ | exact Or.inr ⟨by omega, rfl⟩⟩) dX11_gap_11
  · have tcv1 := ltF cv1
    refine lv_iload_n hx hb dX11_gap_4 rfl (lv_at hl 1 rfl) ?_
    refine lv_bipush (v := 100) hx hb dX11_gap_5 (by decide) ?_
    refine lv_icmp_le (tgt := 12) hx hb dX11_gap_7 (by decide) (fun cv2 => ?_) (fun cv2 => ?_)
    · have tcv2 := leT cv2
      refine lv_aload_n hx hb dX11_gap_12 rfl (lv_at hl 0 rfl) ?_
      refine lv_iload_n hx hb dX11_gap_13 rfl (lv_at hl 1 rfl) ?_
      refine r_put C hM kh0 f_X11_78 (fun r h => by cases h; rfl) rfl rfl (mPut.I (ci := 11) (k := 12) rfl) dX11_gap_14 (fun H locs hM => ?_)
      have hM : mH D H0 (pI S 1112 h0 i0) kc ns H locs := hM
      have hI := hI.fe (fEq.I (S := S) (f := 1112) (a := h0) (v := i0) (by decide))
      refine lv_iconst (v := 1) hx hb dX11_gap_17 (by decide) ?_
      exact r_retZ C hr hlk rfl hM (⟨rfl, rfl, hK9, hI, by first | exact Or.inl ⟨⟨by omega, by omega⟩, rfl⟩ | exact Or.inr ⟨by omega, rfl⟩⟩) dX11_gap_18
    · have tcv2 := leF cv2
      refine lv_iconst (v := 0) hx hb dX11_gap_10 (by decide) ?_
      exact r_retZ C hr hlk rfl hM (⟨rfl, rfl, hK9, hI, by first | exact Or.inl ⟨⟨by omega, by omega⟩, rfl⟩ | exact Or.inr ⟨by omega, rfl⟩⟩) dX11_gap_11
set_option maxHeartbeats 4000000 in
set_option maxRecDepth 100000 in
theorem c_X11_clear (l : Launch) (D : gD) (H0 : gB) (S : Mem) (kc ns : Nat) (h0 : Nat) {u : Nat} {tl : Int} {rho : Nat × Nat} (hI : CI x0 u tl rho S) (kh0 : mK S h0 = 12) : Met l yX11_clear (wsU yX11_clear cX11_clear 2 (some .int)) ({ frames := 0, cells := 0, slots := 0, locals := 0 } : Room) (mP D H0 S kc ns [.ref h0]) (mQ D H0 gI (fun r S1 k1 n1 => kc = k1 ∧ ns = n1 ∧ mK S1 = mK S ∧ CI x0 u tl rho S1 ∧ True)) 0 0 (mF H0) := by
  refine r_met (own := RX11) (by decide +kernel) rfl (Nat.le_of_ble_eq_true rfl) ?_
  intro p e s m args below meth c C hr hlk hnm H ls hl hM
  obtain ⟨hx, hb, hml, hown, hts, -, -⟩ := id C
  have hl : lv_has ls 2 [(0, .ref h0)] := hl
  have hI0 := hI
  have hK9 : mK S = mK S := rfl
  have t_0 : (0 : Int32).toInt = 0 := by decide
  refine lv_aload_n hx hb dX11_clear_0 rfl (lv_at hl 0 rfl) ?_
  refine r_get (ci := 11) (k := 10) (v := .int (mI S 1110 h0)) C hM kh0 f_X11_71 rfl dX11_clear_1 ?_
  refine lv_topi (fun xv1 exv1 => ?_)
  have fxv1 := NI.g1110 hI.2 kh0 exv1
  refine lv_istore_n (lv' := [(1, .int xv1), (0, .ref h0)]) hx hb dX11_clear_4 rfl hl (by decide) rfl (fun ls hl => ?_)
  refine lv_aload_n hx hb dX11_clear_5 rfl (lv_at hl 1 rfl) ?_
  refine lv_iconst (v := 0) hx hb dX11_clear_6 (by decide) ?_
  refine r_put C hM kh0 f_X11_71 (fun r h => by cases h; rfl) rfl rfl (mPut.I (ci := 11) (k := 10) rfl) dX11_clear_7 (fun H locs hM => ?_)
  have hM : mH D H0 (pI S 1110 h0 0) kc ns H locs := hM
  have hI := CI.p1110 (a := h0) (v := 0) hI ⟨by omega, by omega⟩
  refine lv_iload_n hx hb dX11_clear_10 rfl (lv_at hl 0 rfl) ?_
  exact r_retI C hr hlk hM (⟨rfl, rfl, hK9, hI, trivial⟩) dX11_clear_11
set_option maxHeartbeats 4000000 in
set_option maxRecDepth 100000 in
theorem c_X11_forget (l : Launch) (D : gD) (H0 : gB) (S : Mem) (kc ns : Nat) (h0 : Nat) {u : Nat} {tl : Int} {rho : Nat × Nat} (hI : CI x0 u tl rho S) (kh0 : mK S h0 = 12) : Met l yX11_forget (wsU yX11_forget cX11_forget 2 (some .int)) ({ frames := 1, cells := 0, slots := 0, locals := 21 } : Room) (mP D H0 S kc ns [.ref h0]) (mQ D H0 gI (fun r S1 k1 n1 => kc = k1 ∧ ns = n1 ∧ mK S1 = mK S ∧ CI x0 u tl rho S1 ∧ True)) 0 0 (mF H0) := by
  refine r_met (own := RX11) (by decide +kernel) rfl (Nat.le_of_ble_eq_true rfl) ?_
  intro p e s m args below meth c C hr hlk hnm H ls hl hM
  obtain ⟨hx, hb, hml, hown, hts, -, -⟩ := id C
  have hl : lv_has ls 2 [(0, .ref h0)] := hl
  have hI0 := hI
  have hK9 : mK S = mK S := rfl
  have t_0 : (0 : Int32).toInt = 0 := by decide
  refine lv_aload_n hx hb dX11_forget_0 rfl (lv_at hl 0 rfl) ?_
  obtain ⟨qv1, eqv1, kqv1, nqv1⟩ := TI.nn hI.1 (ci := 11) (k := 7) kh0
  refine r_get (ci := 11) (k := 7) (v := .ref qv1) C hM kh0 f_X11_54 (congrArg va_rf eqv1) dX11_forget_1 ?_
  refine r_getN (ci := 8) (k := 2) (v := .int (mI S 802 qv1)) C hM kqv1 f_X11_205 rfl dX11_forget_4 ?_
  refine lv_topi (fun xv2 exv2 => ?_)
  have fxv2 := NI.g802 hI.2 kqv1 exv2
  refine lv_istore_n (lv' := [(1, .int xv2), (0, .ref h0)]) hx hb dX11_forget_7 rfl hl (by decide) rfl (fun ls hl => ?_)
  refine lv_aload_n hx hb dX11_forget_8 rfl (lv_at hl 1 rfl) ?_
  refine r_get (ci := 11) (k := 7) (v := .ref qv1) C hM kh0 f_X11_54 (congrArg va_rf (eqv1)) dX11_forget_9 ?_
  refine r_VN (As := []) (rest := []) (ci := 8) C hM (c_X8_dropAll l D H0 S kc ns qv1 hI kqv1) i_X8_dropAll m_X11_210 kqv1 rfl rfl rfl hl.1 rfl (Nat.le_of_ble_eq_true rfl) ⟨by decide, by decide⟩ ⟨by decide, by decide⟩ dX11_forget_12 (fun uv6 Sv3 kv4 nv5 H locs pv7 hM => ?_)
  obtain ⟨rfl, rfl, hk9, hI, huv6⟩ := pv7
  have kh0 : mK Sv3 h0 = 12 := (congrFun (hk9) h0).trans kh0
  have hK9 := hk9.trans hK9
  refine W.eq (g2 := F0 m 15 ls []) rfl ?_
  refine lv_iload_n hx hb dX11_forget_15 rfl (lv_at hl 0 rfl) ?_
  exact r_retI C hr hlk hM (⟨rfl, rfl, hK9, hI, trivial⟩) dX11_forget_16
set_option maxHeartbeats 4000000 in
set_option maxRecDepth 100000 in
theorem c_X11_sample (l : Launch) (D : gD) (H0 : gB) (S : Mem) (kc ns : Nat) (h0 : Nat) (i0 i1 : Int32) {u : Nat} {tl : Int} {rho : Nat × Nat} (hI : CI x0 u tl rho S) (kh0 : mK S h0 = 12) : Met l yX11_sample (wsU yX11_sample cX11_sample 4 (some .int)) ({ frames := 4, cells := 0, slots := 0, locals := 89 } : Room) (mP D H0 S kc ns [.ref h0, .int i0, .int i1]) (mQ D H0 gI (fun r S1 k1 n1 => kc = k1 ∧ ns = n1 ∧ mK S1 = mK S ∧ CI x0 u tl rho S1 ∧ True)) 0 0 (mF H0) := by
  refine r_met (own := RX11) (by decide +kernel) rfl (Nat.le_of_ble_eq_true rfl) ?_
  intro p e s m args below meth c C hr hlk hnm H ls hl hM
  obtain ⟨hx, hb, hml, hown, hts, -, -⟩ := id C
  have hl : lv_has ls 4 [(0, .ref h0), (1, .int i0), (2, .int i1)] := hl
  have hI0 := hI
  have hK9 : mK S = mK S := rfl
  have t_m1 : (-1 : Int32).toInt = -1 := by decide
  have t_0 : (0 : Int32).toInt = 0 := by decide
  have t_6 : (6 : Int32).toInt = 6 := by decide
  refine lv_aload_n hx hb dX11_sample_0 rfl (lv_at hl 0 rfl) ?_
  refine lv_iload_n hx hb dX11_sample_1 rfl (lv_at hl 1 rfl) ?_
  refine lv_iload_n hx hb dX11_sample_2 rfl (lv_at hl 2 rfl) ?_
  refine r_V (As := [.int i0, .int i1]) (rest := []) (ci := 11) C hM (c_X11_partOn l D H0 S kc ns h0 i0 i1 hI kh0) i_X11_partOn m_X11_101 kh0 rfl rfl rfl hl.1 rfl (Nat.le_of_ble_eq_true rfl) ⟨by decide, by decide⟩ ⟨by decide, by decide⟩ dX11_sample_3 (fun rv4 Sv1 kv2 nv3 H locs pv5 hM => ?_)
  obtain ⟨rfl, rfl, rfl, krv4⟩ := pv5
  refine W.eq (g2 := F0 m 6 ls [va_rf rv4]) rfl ?_
  refine lv_astore_nQ (lv' := [(3, va_rf rv4), (0, .ref h0), (1, .int i0), (2, .int i1)]) hx hb dX11_sample_6 rfl hl (by decide) rfl (fun ls hl => ?_)
  refine lv_aload_nQ hx hb dX11_sample_7 rfl (lv_at hl 0 rfl) ?_
  cases rv4 with
  | none =>
    refine lv_ifnullN (tgt := 23) hx hb dX11_sample_8 (by decide) ?_
    refine lv_iconst (v := -1) hx hb dX11_sample_23 (by decide) ?_
    exact r_retI C hr hlk hM (⟨rfl, rfl, hK9, hI, trivial⟩) dX11_sample_24
  | some qv6 =>
    have kqv6 : mK S qv6 = 6 := krv4 qv6 rfl
    refine lv_ifnull hx hb dX11_sample_8 ?_
    refine lv_aload_n hx hb dX11_sample_11 rfl (lv_at hl 1 rfl) ?_
    obtain ⟨qv7, eqv7, kqv7, nqv7⟩ := TI.nn hI.1 (ci := 11) (k := 7) kh0
    refine r_get (ci := 11) (k := 7) (v := .ref qv7) C hM kh0 f_X11_54 (congrArg va_rf eqv7) dX11_sample_12 ?_
    refine r_getN (ci := 8) (k := 2) (v := .int (mI S 802 qv7)) C hM kqv7 f_X11_205 rfl dX11_sample_15 ?_
    refine lv_topi (fun xv8 exv8 => ?_)
    have fxv8 := NI.g802 hI.2 kqv7 exv8
    refine lv_bipush (v := 6) hx hb dX11_sample_18 (by decide) ?_
    refine lv_icmp_lt (tgt := 25) hx hb dX11_sample_20 (by decide) (fun cv9 => ?_) (fun cv9 => ?_)
    · have tcv9 := ltT cv9
      refine lv_aload_n hx hb dX11_sample_25 rfl (lv_at hl 1 rfl) ?_
      refine r_get (ci := 11) (k := 7) (v := .ref qv7) C hM kh0 f_X11_54 (congrArg va_rf (eqv7)) dX11_sample_26 ?_
      refine lv_aload_n hx hb dX11_sample_29 rfl (lv_at hl 0 rfl) ?_
      refine r_VN (As := [.ref qv6]) (rest := []) (ci := 8) C hM (c_X8_add l D H0 S kc ns qv7 qv6 hI kqv7 kqv6) i_X8_add m_X11_206 kqv7 rfl rfl rfl hl.1 rfl (Nat.le_of_ble_eq_true rfl) ⟨by decide, by decide⟩ ⟨by decide, by decide⟩ dX11_sample_30 (fun uv13 Sv10 kv11 nv12 H locs pv14 hM => ?_)
      obtain ⟨rfl, rfl, hk9, hI, huv13⟩ := pv14
      have kqv6 : mK Sv10 qv6 = 6 := (congrFun (hk9) qv6).trans kqv6
      have kh0 : mK Sv10 h0 = 12 := (congrFun (hk9) h0).trans kh0
      have hK9 := hk9.trans hK9
      refine W.eq (g2 := F0 m 33 ls []) rfl ?_
      refine lv_aload_n hx hb dX11_sample_33 rfl (lv_at hl 1 rfl) ?_
      obtain ⟨qv15, eqv15, kqv15, nqv15⟩ := TI.nn hI.1 (ci := 11) (k := 7) kh0
      refine r_get (ci := 11) (k := 7) (v := .ref qv15) C hM kh0 f_X11_54 (congrArg va_rf eqv15) dX11_sample_34 ?_
      refine r_getN (ci := 8) (k := 2) (v := .int (mI Sv10 802 qv15)) C hM kqv15 f_X11_205 rfl dX11_sample_37 ?_
      refine lv_topi (fun xv16 exv16 => ?_)
      have fxv16 := NI.g802 hI.2 kqv15 exv16
      exact r_retI C hr hlk hM (⟨rfl, rfl, hK9, hI, trivial⟩) dX11_sample_40
    · have tcv9 := ltF cv9
      refine lv_iconst (v := -1) hx hb dX11_sample_23 (by decide) ?_
      exact r_retI C hr hlk hM (⟨rfl, rfl, hK9, hI, trivial⟩) dX11_sample_24
set_option maxHeartbeats 4000000 in
set_option maxRecDepth 100000 in
theorem c_X9_append (l : Launch) (D : gD) (H0 : gB) (S : Mem) (kc ns : Nat) (h0 : Nat) (i0 : Int32) {u : Nat} {tl : Int} {rho : Nat × Nat} (hI : CI x0 u tl rho S) (kh0 : mK S h0 = 10) (ht : tl + 4 ≤ 1600) : Met l yX9_append (wsU yX9_append cX9_append 3 none) ({ frames := 0, cells := 0, slots := 0, locals := 0 } : Room) (mP D H0 S kc ns [.ref h0, .int i0]) (mQ D H0 gV (fun r S1 k1 n1 => kc = k1 ∧ ns = n1 ∧ mK S1 = mK S ∧ CI x0 u (tl + 4) rho S1 ∧ True)) 0 0 (mF H0) := by
  refine r_met (own := RX9) (by decide +kernel) rfl (Nat.le_of_ble_eq_true rfl) ?_
  intro p e s m args below meth c C hr hlk hnm H ls hl hM
  obtain ⟨hx, hb, hml, hown, hts, -, -⟩ := id C
  have hl : lv_has ls 3 [(0, .ref h0), (1, .int i0)] := hl
  have hI0 := hI
  have hK9 : mK S = mK S := rfl
  have t_m8 : (-8 : Int32).toInt = -8 := by decide
  have t_0 : (0 : Int32).toInt = 0 := by decide
  have t_1 : (1 : Int32).toInt = 1 := by decide
  have t_24 : (24 : Int32).toInt = 24 := by decide
  have t_1600 : (1600 : Int32).toInt = 1600 := by decide
  refine lv_bipush (v := 24) hx hb dX9_append_0 (by decide) ?_
  refine lv_istore_n (lv' := [(2, .int 24), (0, .ref h0), (1, .int i0)]) hx hb dX9_append_2 rfl hl (by decide) rfl (fun ls hl => ?_)
  have hI : CI x0 u (tl + (24 - (24 : Int32).toInt) / 8) rho S := CI.tlEq hI (by omega)
  have loop3 : ∀ (fu : Nat) (j : Int32) (Sa : Mem) (H : Heap) (locs : List Loc) (ls : Array Slot), (mK Sa = mK S) → (CI x0 u (tl + (24 - j.toInt) / 8) rho Sa) → (-8 ≤ j.toInt ∧ j.toInt ≤ 24 ∧ j.toInt % 8 = 0) → (j.toInt + 8).toNat < fu → lv_has ls 3 [(0, .ref h0), (1, .int i0), (2, .int j)] → mH D H0 Sa kc ns H locs → W p l e ({ frames := 0, cells := 0, slots := 0, locals := 0 } : Room) s m args below meth c H locs 0 0 (MQ below (mQ D H0 gV (fun r S1 k1 n1 => kc = k1 ∧ ns = n1 ∧ mK S1 = mK S ∧ CI x0 u (tl + 4) rho S1 ∧ True)) args s 0 0 (mF H0)) (F0 m 3 ls []) := by
    intro fu
    induction fu with
    | zero => intro j Sa H locs ls h3_0 h3_1 h3_2 hfu; exact absurd hfu (by omega)
    | succ fu ih3 =>
      intro j Sa H locs ls h3_0 h3_1 h3_2 hfu hl hM
      have hK9 := h3_0
      have hI := h3_1
      have kh0 : mK Sa h0 = 10 := (congrFun (hK9) h0).trans kh0
      refine lv_iload_n hx hb dX9_append_3 rfl (lv_at hl 2 rfl) ?_
      refine lv_if_lt (tgt := 46) hx hb dX9_append_4 (by decide) (fun cv1 => ?_) (fun cv1 => ?_)
      · have tcv1 := ltT cv1
        exact r_retV C hr hlk hM (⟨rfl, rfl, hK9, CI.tlEq hI (by omega), trivial⟩) dX9_append_46
      · have tcv1 := ltF cv1
        refine lv_aload_n hx hb dX9_append_7 rfl (lv_at hl 0 rfl) ?_
        refine r_get (ci := 9) (k := 1) (v := .int (mI Sa 901 h0)) C hM kh0 f_X9_15 rfl dX9_append_8 ?_
        refine lv_topi (fun xv2 exv2 => ?_)
        have fxv2 := NI.g901 hI.2 kh0 exv2
        refine lv_sipush (v := 1600) hx hb dX9_append_11 (by decide) ?_
        refine lv_icmp_ge (tgt := 40) hx hb dX9_append_14 (by decide) (fun cv3 => ?_) (fun cv3 => ?_)
        · have tcv3 := leT cv3
          obtain ⟨xv4, exv4⟩ : ∃ y : Int32, y = j + (-8) := ⟨_, rfl⟩
          try (have txv4 := addI (a := j) (b := (-8)) (by omega) (by omega); rw [← exv4] at txv4)
          refine lv_iinc (v := xv4) (lv' := [(2, .int xv4), (0, .ref h0), (1, .int i0)]) hx hb dX9_append_40 hl (k := 2) rfl (by rw [exv4]; rfl) (by decide) rfl (fun ls hl => ?_)
          refine lv_goto (tgt := 3) hx hb dX9_append_43 (by decide) ?_
          have hI : CI x0 u (tl + (24 - xv4.toInt) / 8) rho Sa := CI.tlEq hI (by omega)
          exact ih3 xv4 Sa _ _ _ (hK9) (hI) (by omega) (by omega) (lv_sub hl [1, 2, 0] rfl) hM
        · have tcv3 := leF cv3
          refine lv_aload_n hx hb dX9_append_17 rfl (lv_at hl 0 rfl) ?_
          obtain ⟨qv5, eqv5, kqv5, nqv5⟩ := TI.nn hI.1 (ci := 9) (k := 0) kh0
          refine r_get (ci := 9) (k := 0) (v := .ref qv5) C hM kh0 f_X9_9 (congrArg va_rf eqv5) dX9_append_18 ?_
          refine lv_aload_n hx hb dX9_append_21 rfl (lv_at hl 0 rfl) ?_
          refine r_get (ci := 9) (k := 1) (v := .int (mI Sa 901 h0)) C hM kh0 f_X9_15 rfl dX9_append_22 ?_
          refine lv_topi (fun xv6 exv6 => ?_)
          have fxv6 := NI.g901 hI.2 kh0 exv6
          have gxv6 : xv6 = xv2 := exv6.trans (exv2.symm)
          have hxv6 : xv6.toInt = xv2.toInt := by rw [gxv6]
          refine lv_iload_n hx hb dX9_append_25 rfl (lv_at hl 1 rfl) ?_
          refine lv_iload_n hx hb dX9_append_26 rfl (lv_at hl 2 rfl) ?_
          refine lv_ishr hx hb dX9_append_27 ?_
          refine lv_topi (fun xv7 exv7 => ?_)
          refine lv_i2b hx hb dX9_append_28 rfl ?_
          refine lv_topi (fun xv8 exv8 => ?_)
          refine r_bast C hM kqv5 (inI (by omega) (by rw [nqv5 (by decide)]; show _ < (1600 : Int); omega)) dX9_append_29 (fun H locs hM => ?_)
          have hM : mH D H0 (qI Sa qv5 xv6.toNatClampNeg (vp_nar .byte xv8)) kc ns H locs := hM
          have hI := hI.fe (fEq.AI (S := Sa) (a := qv5) (i := xv6.toNatClampNeg) (v := (vp_nar .byte xv8)))
          refine lv_aload_n hx hb dX9_append_30 rfl (lv_at hl 0 rfl) ?_
          refine lv_dup hx hb dX9_append_31 rfl ?_
          refine r_get (ci := 9) (k := 1) (v := .int (mI (qI Sa qv5 xv6.toNatClampNeg (vp_nar .byte xv8)) 901 h0)) C hM kh0 f_X9_15 rfl dX9_append_32 ?_
          refine lv_topi (fun xv9 exv9 => ?_)
          have fxv9 := NI.g901 hI.2 kh0 exv9
          have gxv9 : xv9 = xv2 := exv9.trans (exv2.symm)
          have hxv9 : xv9.toInt = xv2.toInt := by rw [gxv9]
          refine lv_iconst (v := 1) hx hb dX9_append_35 (by decide) ?_
          refine lv_iadd hx hb dX9_append_36 ?_
          refine lv_topi (fun xv10 exv10 => ?_)
          try (have txv10 := addI (a := xv9) (b := 1) (by omega) (by omega); rw [← exv10] at txv10)
          refine r_put C hM kh0 f_X9_15 (fun r h => by cases h; rfl) rfl rfl (mPut.I (ci := 9) (k := 1) rfl) dX9_append_37 (fun H locs hM => ?_)
          have hM : mH D H0 (pI (qI Sa qv5 xv6.toNatClampNeg (vp_nar .byte xv8)) 901 h0 xv10) kc ns H locs := hM
          have hI := CI.p901 (a := h0) (v := xv10) hI kh0 ⟨by omega, by omega⟩
          obtain ⟨xv11, exv11⟩ : ∃ y : Int32, y = j + (-8) := ⟨_, rfl⟩
          try (have txv11 := addI (a := j) (b := (-8)) (by omega) (by omega); rw [← exv11] at txv11)
          refine lv_iinc (v := xv11) (lv' := [(2, .int xv11), (0, .ref h0), (1, .int i0)]) hx hb dX9_append_40 hl (k := 2) rfl (by rw [exv11]; rfl) (by decide) rfl (fun ls hl => ?_)
          refine lv_goto (tgt := 3) hx hb dX9_append_43 (by decide) ?_
          have hI : CI x0 u (tl + (24 - xv11.toInt) / 8) rho (pI (qI Sa qv5 xv6.toNatClampNeg (vp_nar .byte xv8)) 901 h0 xv10) := CI.tlEq hI (by omega)
          exact ih3 xv11 (pI (qI Sa qv5 xv6.toNatClampNeg (vp_nar .byte xv8)) 901 h0 xv10) _ _ _ (hK9) (hI) (by omega) (by omega) (lv_sub hl [1, 2, 0] rfl) hM
  exact loop3 ((((24 : Int32).toInt + 8).toNat) + 1) 24 S _ _ _ (hK9) (hI) (by omega) (by omega) (lv_sub hl [1, 2, 0] rfl) hM
set_option maxHeartbeats 4000000 in
set_option maxRecDepth 100000 in
theorem c_X11_feed (l : Launch) (D : gD) (H0 : gB) (S : Mem) (kc ns : Nat) (h0 : Nat) (i0 i1 i2 i3 i4 : Int32) {u : Nat} {tl : Int} {rho : Nat × Nat} (hI : CI x0 u tl rho S) (kh0 : mK S h0 = 12) : Met l yX11_feed (wsU yX11_feed cX11_feed 6 (some .int)) ({ frames := 1, cells := 0, slots := 0, locals := 22 } : Room) (mP D H0 S kc ns [.ref h0, .int i0, .int i1, .int i2, .int i3, .int i4]) (mQ D H0 gI (fun r S1 k1 n1 => kc = k1 ∧ ns = n1 ∧ mK S1 = mK S ∧ ((1580 < tl ∧ CI x0 u tl rho S1 ∧ r = -1) ∨ (tl ≤ 1580 ∧ CI x0 u (tl + 20) rho S1 ∧ r.toInt = tl + 20)))) 0 0 (mF H0) := by
  refine r_met (own := RX11) (by decide +kernel) rfl (Nat.le_of_ble_eq_true rfl) ?_
  intro p e s m args below meth c C hr hlk hnm H ls hl hM
  obtain ⟨hx, hb, hml, hown, hts, -, -⟩ := id C
  have hl : lv_has ls 6 [(0, .ref h0), (1, .int i0), (2, .int i1), (3, .int i2), (4, .int i3), (5, .int i4)] := hl
  have hI0 := hI
  have hK9 : mK S = mK S := rfl
  have t_m1 : (-1 : Int32).toInt = -1 := by decide
  have t_0 : (0 : Int32).toInt = 0 := by decide
  have t_1580 : (1580 : Int32).toInt = 1580 := by decide
  refine lv_aload_n hx hb dX11_feed_0 rfl (lv_at hl 0 rfl) ?_
  obtain ⟨qv1, eqv1, kqv1, nqv1⟩ := TI.nn hI.1 (ci := 11) (k := 0) kh0
  refine r_get (ci := 11) (k := 0) (v := .ref qv1) C hM kh0 f_X11_10 (congrArg va_rf eqv1) dX11_feed_1 ?_
  refine r_getN (ci := 9) (k := 1) (v := .int (mI S 901 qv1)) C hM kqv1 f_X11_81 rfl dX11_feed_4 ?_
  refine lv_topi (fun xv2 exv2 => ?_)
  have fxv2 := NI.g901 hI.2 kqv1 exv2
  refine lv_sipush (v := 1580) hx hb dX11_feed_7 (by decide) ?_
  refine lv_icmp_le (tgt := 15) hx hb dX11_feed_10 (by decide) (fun cv3 => ?_) (fun cv3 => ?_)
  · have tcv3 := leT cv3
    refine lv_aload_n hx hb dX11_feed_15 rfl (lv_at hl 0 rfl) ?_
    refine r_get (ci := 11) (k := 0) (v := .ref qv1) C hM kh0 f_X11_10 (congrArg va_rf (eqv1)) dX11_feed_16 ?_
    refine lv_iload_n hx hb dX11_feed_19 rfl (lv_at hl 1 rfl) ?_
    refine r_VN (As := [.int i0]) (rest := []) (ci := 9) C hM (c_X9_append l D H0 S kc ns qv1 i0 hI kqv1 (by omega)) i_X9_append m_X11_84 kqv1 rfl rfl rfl hl.1 rfl (Nat.le_of_ble_eq_true rfl) ⟨by decide, by decide⟩ ⟨by decide, by decide⟩ dX11_feed_20 (fun uv7 Sv4 kv5 nv6 H locs pv8 hM => ?_)
    obtain ⟨rfl, rfl, hk9, hI, huv7⟩ := pv8
    have kh0 : mK Sv4 h0 = 12 := (congrFun (hk9) h0).trans kh0
    have hK9 := hk9.trans hK9
    refine W.eq (g2 := F0 m 23 ls []) rfl ?_
    refine lv_aload_n hx hb dX11_feed_23 rfl (lv_at hl 0 rfl) ?_
    obtain ⟨qv9, eqv9, kqv9, nqv9⟩ := TI.nn hI.1 (ci := 11) (k := 0) kh0
    refine r_get (ci := 11) (k := 0) (v := .ref qv9) C hM kh0 f_X11_10 (congrArg va_rf eqv9) dX11_feed_24 ?_
    refine lv_iload_n hx hb dX11_feed_27 rfl (lv_at hl 2 rfl) ?_
    refine r_VN (As := [.int i1]) (rest := []) (ci := 9) C hM (c_X9_append l D H0 Sv4 kc ns qv9 i1 hI kqv9 (by omega)) i_X9_append m_X11_84 kqv9 rfl rfl rfl hl.1 rfl (Nat.le_of_ble_eq_true rfl) ⟨by decide, by decide⟩ ⟨by decide, by decide⟩ dX11_feed_28 (fun uv13 Sv10 kv11 nv12 H locs pv14 hM => ?_)
    obtain ⟨rfl, rfl, hk9, hI, huv13⟩ := pv14
    have kh0 : mK Sv10 h0 = 12 := (congrFun (hk9) h0).trans kh0
    have hK9 := hk9.trans hK9
    refine W.eq (g2 := F0 m 31 ls []) rfl ?_
    refine lv_aload_n hx hb dX11_feed_31 rfl (lv_at hl 0 rfl) ?_
    obtain ⟨qv15, eqv15, kqv15, nqv15⟩ := TI.nn hI.1 (ci := 11) (k := 0) kh0
    refine r_get (ci := 11) (k := 0) (v := .ref qv15) C hM kh0 f_X11_10 (congrArg va_rf eqv15) dX11_feed_32 ?_
    refine lv_iload_n hx hb dX11_feed_35 rfl (lv_at hl 3 rfl) ?_
    refine r_VN (As := [.int i2]) (rest := []) (ci := 9) C hM (c_X9_append l D H0 Sv10 kc ns qv15 i2 hI kqv15 (by omega)) i_X9_append m_X11_84 kqv15 rfl rfl rfl hl.1 rfl (Nat.le_of_ble_eq_true rfl) ⟨by decide, by decide⟩ ⟨by decide, by decide⟩ dX11_feed_36 (fun uv19 Sv16 kv17 nv18 H locs pv20 hM => ?_)
    obtain ⟨rfl, rfl, hk9, hI, huv19⟩ := pv20
    have kh0 : mK Sv16 h0 = 12 := (congrFun (hk9) h0).trans kh0
    have hK9 := hk9.trans hK9
    refine W.eq (g2 := F0 m 39 ls []) rfl ?_
    refine lv_aload_n hx hb dX11_feed_39 rfl (lv_at hl 0 rfl) ?_
    obtain ⟨qv21, eqv21, kqv21, nqv21⟩ := TI.nn hI.1 (ci := 11) (k := 0) kh0
    refine r_get (ci := 11) (k := 0) (v := .ref qv21) C hM kh0 f_X11_10 (congrArg va_rf eqv21) dX11_feed_40 ?_
    refine lv_iload hx hb dX11_feed_43 (lv_at hl 4 rfl) ?_
    refine r_VN (As := [.int i3]) (rest := []) (ci := 9) C hM (c_X9_append l D H0 Sv16 kc ns qv21 i3 hI kqv21 (by omega)) i_X9_append m_X11_84 kqv21 rfl rfl rfl hl.1 rfl (Nat.le_of_ble_eq_true rfl) ⟨by decide, by decide⟩ ⟨by decide, by decide⟩ dX11_feed_45 (fun uv25 Sv22 kv23 nv24 H locs pv26 hM => ?_)
    obtain ⟨rfl, rfl, hk9, hI, huv25⟩ := pv26
    have kh0 : mK Sv22 h0 = 12 := (congrFun (hk9) h0).trans kh0
    have hK9 := hk9.trans hK9
    refine W.eq (g2 := F0 m 48 ls []) rfl ?_
    refine lv_aload_n hx hb dX11_feed_48 rfl (lv_at hl 0 rfl) ?_
    obtain ⟨qv27, eqv27, kqv27, nqv27⟩ := TI.nn hI.1 (ci := 11) (k := 0) kh0
    refine r_get (ci := 11) (k := 0) (v := .ref qv27) C hM kh0 f_X11_10 (congrArg va_rf eqv27) dX11_feed_49 ?_
    refine lv_iload hx hb dX11_feed_52 (lv_at hl 5 rfl) ?_
    refine r_VN (As := [.int i4]) (rest := []) (ci := 9) C hM (c_X9_append l D H0 Sv22 kc ns qv27 i4 hI kqv27 (by omega)) i_X9_append m_X11_84 kqv27 rfl rfl rfl hl.1 rfl (Nat.le_of_ble_eq_true rfl) ⟨by decide, by decide⟩ ⟨by decide, by decide⟩ dX11_feed_54 (fun uv31 Sv28 kv29 nv30 H locs pv32 hM => ?_)
    obtain ⟨rfl, rfl, hk9, hI, huv31⟩ := pv32
    have kh0 : mK Sv28 h0 = 12 := (congrFun (hk9) h0).trans kh0
    have hK9 := hk9.trans hK9
    refine W.eq (g2 := F0 m 57 ls []) rfl ?_
    refine lv_aload_n hx hb dX11_feed_57 rfl (lv_at hl 0 rfl) ?_
    obtain ⟨qv33, eqv33, kqv33, nqv33⟩ := TI.nn hI.1 (ci := 11) (k := 0) kh0
    refine r_get (ci := 11) (k := 0) (v := .ref qv33) C hM kh0 f_X11_10 (congrArg va_rf eqv33) dX11_feed_58 ?_
    refine r_getN (ci := 9) (k := 1) (v := .int (mI Sv28 901 qv33)) C hM kqv33 f_X11_81 rfl dX11_feed_61 ?_
    refine lv_topi (fun xv34 exv34 => ?_)
    have fxv34 := NI.g901 hI.2 kqv33 exv34
    exact r_retI C hr hlk hM (⟨rfl, rfl, hK9, Or.inr ⟨by omega, CI.tlEq hI (by omega), by omega⟩⟩) dX11_feed_64
  · have tcv3 := leF cv3
    refine lv_iconst (v := -1) hx hb dX11_feed_13 (by decide) ?_
    exact r_retI C hr hlk hM (⟨rfl, rfl, hK9, Or.inl ⟨by omega, hI, rfl⟩⟩) dX11_feed_14
set_option maxHeartbeats 4000000 in
set_option maxRecDepth 100000 in
theorem c_X11_end (l : Launch) (D : gD) (H0 : gB) (S : Mem) (kc ns : Nat) (h0 : Nat) (i0 : Int32) {u : Nat} {tl : Int} {rho : Nat × Nat} (hI : CI x0 u tl rho S) (kh0 : mK S h0 = 12) : Met l yX11_end (wsU yX11_end cX11_end 2 (some .int)) ({ frames := 0, cells := 0, slots := 0, locals := 0 } : Room) (mP D H0 S kc ns [.ref h0, .int i0]) (mQ D H0 gI (fun r S1 k1 n1 => kc = k1 ∧ ns = n1 ∧ mK S1 = mK S ∧ ((¬ (0 ≤ i0.toInt ∧ i0.toInt ≤ tl) ∧ CI x0 u tl rho S1 ∧ r = -1) ∨ ((0 ≤ i0.toInt ∧ i0.toInt ≤ tl) ∧ CI x0 u i0.toInt rho S1 ∧ r = i0)))) 0 0 (mF H0) := by
  refine r_met (own := RX11) (by decide +kernel) rfl (Nat.le_of_ble_eq_true rfl) ?_
  intro p e s m args below meth c C hr hlk hnm H ls hl hM
  obtain ⟨hx, hb, hml, hown, hts, -, -⟩ := id C
  have hl : lv_has ls 2 [(0, .ref h0), (1, .int i0)] := hl
  have hI0 := hI
  have hK9 : mK S = mK S := rfl
  have t_m1 : (-1 : Int32).toInt = -1 := by decide
  have t_0 : (0 : Int32).toInt = 0 := by decide
  refine lv_iload_n hx hb dX11_end_0 rfl (lv_at hl 1 rfl) ?_
  refine lv_if_lt (tgt := 15) hx hb dX11_end_1 (by decide) (fun cv1 => ?_) (fun cv1 => ?_)
  · have tcv1 := ltT cv1
    refine lv_iconst (v := -1) hx hb dX11_end_15 (by decide) ?_
    exact r_retI C hr hlk hM (⟨rfl, rfl, hK9, Or.inl ⟨by omega, hI, rfl⟩⟩) dX11_end_16
  · have tcv1 := ltF cv1
    refine lv_iload_n hx hb dX11_end_4 rfl (lv_at hl 1 rfl) ?_
    refine lv_aload_n hx hb dX11_end_5 rfl (lv_at hl 0 rfl) ?_
    obtain ⟨qv2, eqv2, kqv2, nqv2⟩ := TI.nn hI.1 (ci := 11) (k := 0) kh0
    refine r_get (ci := 11) (k := 0) (v := .ref qv2) C hM kh0 f_X11_10 (congrArg va_rf eqv2) dX11_end_6 ?_
    refine r_getN (ci := 9) (k := 1) (v := .int (mI S 901 qv2)) C hM kqv2 f_X11_81 rfl dX11_end_9 ?_
    refine lv_topi (fun xv3 exv3 => ?_)
    have fxv3 := NI.g901 hI.2 kqv2 exv3
    refine lv_icmp_le (tgt := 17) hx hb dX11_end_12 (by decide) (fun cv4 => ?_) (fun cv4 => ?_)
    · have tcv4 := leT cv4
      refine lv_aload_n hx hb dX11_end_17 rfl (lv_at hl 0 rfl) ?_
      refine r_get (ci := 11) (k := 0) (v := .ref qv2) C hM kh0 f_X11_10 (congrArg va_rf (eqv2)) dX11_end_18 ?_
      refine lv_iload_n hx hb dX11_end_21 rfl (lv_at hl 1 rfl) ?_
      have k901 := kqv2
      refine r_putN C hM kqv2 f_X11_81 (fun r h => by cases h; rfl) rfl rfl (mPut.I (ci := 9) (k := 1) rfl) dX11_end_22 (fun H locs hM => ?_)
      have hM : mH D H0 (pI S 901 qv2 i0) kc ns H locs := hM
      have hI := CI.p901 (v := i0) hI k901 ⟨by omega, by omega⟩
      refine lv_iload_n hx hb dX11_end_25 rfl (lv_at hl 1 rfl) ?_
      exact r_retI C hr hlk hM (⟨rfl, rfl, hK9, Or.inr ⟨⟨by omega, by omega⟩, hI, rfl⟩⟩) dX11_end_26
    · have tcv4 := leF cv4
      refine lv_iconst (v := -1) hx hb dX11_end_15 (by decide) ?_
      exact r_retI C hr hlk hM (⟨rfl, rfl, hK9, Or.inl ⟨by omega, hI, rfl⟩⟩) dX11_end_16
