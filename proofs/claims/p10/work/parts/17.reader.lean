set_option maxHeartbeats 4000000 in
set_option maxRecDepth 100000 in
theorem c_X6_move (l : Launch) (D : gD) (H0 : gB) (S : Mem) (kc ns : Nat) (h0 : Nat) (i0 i1 : Int32) {u : Nat} {tl : Int} {rho : Nat × Nat} (hI : CI x0 u tl rho S) (kh0 : mK S h0 = 7) : Met l yX6_move (wsU yX6_move cX6_move 3 (some .boolean)) ({ frames := 0, cells := 0, slots := 0, locals := 0 } : Room) (mP D H0 S kc ns [.ref h0, .int i0, .int i1]) (mQ D H0 gI (fun r S1 k1 n1 => kc = k1 ∧ ns = n1 ∧ fEq S S1 ∧ (r = 0 ∨ r = 1) ∧ (r = 1 → mR S 605 h0 ≠ none))) 0 0 (mF H0) := by
  refine r_met (own := RX6) (by decide +kernel) rfl (Nat.le_of_ble_eq_true rfl) ?_
  intro p e s m args below meth c C hr hlk hnm H ls hl hM
  obtain ⟨hx, hb, hml, hown, hts, -, -⟩ := id C
  have hl : lv_has ls 3 [(0, .ref h0), (1, .int i0), (2, .int i1)] := hl
  have hI0 := hI
  have hF : fEq S S := fEq.rf
  have t_0 : (0 : Int32).toInt = 0 := by decide
  have t_1 : (1 : Int32).toInt = 1 := by decide
  have t_2 : (2 : Int32).toInt = 2 := by decide
  refine lv_aload_n hx hb dX6_move_0 rfl (lv_at hl 0 rfl) ?_
  refine r_get (ci := 6) (k := 5) C hM kh0 f_X6_25 rfl dX6_move_1 ?_
  obtain ⟨rv1, erv1, krv1⟩ : ∃ r : Option Nat, mR S 605 h0 = r ∧ ∀ q, r = some q → mK S q = 6 := ⟨_, rfl, TI.opt hI.1 (ci := 6) (k := 5) kh0⟩
  refine W.eq (g2 := F0 m 4 ls [va_rf rv1]) (by rw [← erv1]; rfl) ?_
  cases rv1 with
  | none =>
    refine lv_ifnullN (tgt := 23) hx hb dX6_move_4 (by decide) ?_
    refine lv_iconst (v := 0) hx hb dX6_move_23 (by decide) ?_
    exact r_retZ C hr hlk rfl hM (⟨rfl, rfl, hF, by decide, fun h => absurd h (by decide)⟩) dX6_move_24
  | some qv2 =>
    have kqv2 : mK S qv2 = 6 := krv1 qv2 rfl
    refine lv_ifnull hx hb dX6_move_4 ?_
    refine lv_aload_n hx hb dX6_move_7 rfl (lv_at hl 0 rfl) ?_
    refine r_get (ci := 6) (k := 3) (v := .int (mI S 603 h0)) C hM kh0 f_X6_18 rfl dX6_move_8 ?_
    refine lv_topi (fun xv3 exv3 => ?_)
    refine lv_iconst (v := 2) hx hb dX6_move_11 (by decide) ?_
    refine lv_icmp_lt (tgt := 23) hx hb dX6_move_12 (by decide) (fun cv4 => ?_) (fun cv4 => ?_)
    · have tcv4 := ltT cv4
      refine lv_iconst (v := 0) hx hb dX6_move_23 (by decide) ?_
      exact r_retZ C hr hlk rfl hM (⟨rfl, rfl, hF, by decide, fun h => absurd h (by decide)⟩) dX6_move_24
    · have tcv4 := ltF cv4
      refine lv_aload_n hx hb dX6_move_15 rfl (lv_at hl 0 rfl) ?_
      refine r_get (ci := 6) (k := 3) (v := .int (mI S 603 h0)) C hM kh0 f_X6_18 rfl dX6_move_16 ?_
      refine lv_topi (fun xv5 exv5 => ?_)
      have gxv5 : xv5 = xv3 := exv5.trans (exv3.symm)
      have hxv5 : xv5.toInt = xv3.toInt := by rw [gxv5]
      refine lv_iload_n hx hb dX6_move_19 rfl (lv_at hl 1 rfl) ?_
      refine lv_icmp_le (tgt := 25) hx hb dX6_move_20 (by decide) (fun cv6 => ?_) (fun cv6 => ?_)
      · have tcv6 := leT cv6
        refine lv_aload_n hx hb dX6_move_25 rfl (lv_at hl 0 rfl) ?_
        refine lv_iload_n hx hb dX6_move_26 rfl (lv_at hl 2 rfl) ?_
        refine r_put C hM kh0 f_X6_18 (fun r h => by cases h; rfl) rfl rfl (mPut.I (ci := 6) (k := 3) rfl) dX6_move_27 (fun H locs hM => ?_)
        have hM : mH D H0 (pI S 603 h0 i1) kc ns H locs := hM
        have hI := hI.fe (fEq.I (S := S) (f := 603) (a := h0) (v := i1) (by decide))
        have hF := hF.trans (fEq.I (S := S) (f := 603) (a := h0) (v := i1) (by decide))
        refine lv_iconst (v := 1) hx hb dX6_move_30 (by decide) ?_
        exact r_retZ C hr hlk rfl hM (⟨rfl, rfl, hF, by decide, fun _ => by rw [erv1]; simp⟩) dX6_move_31
      · have tcv6 := leF cv6
        refine lv_iconst (v := 0) hx hb dX6_move_23 (by decide) ?_
        exact r_retZ C hr hlk rfl hM (⟨rfl, rfl, hF, by decide, fun h => absurd h (by decide)⟩) dX6_move_24
set_option maxHeartbeats 4000000 in
set_option maxRecDepth 100000 in
theorem c_X6_takeName (l : Launch) (D : gD) (H0 : gB) (S : Mem) (kc ns : Nat) (h0 : Nat) {u : Nat} {tl : Int} {rho : Nat × Nat} (hI : CI x0 u tl rho S) (kh0 : mK S h0 = 7) : Met l yX6_takeName (wsU yX6_takeName cX6_takeName 1 (some .boolean)) ({ frames := 0, cells := 0, slots := 0, locals := 0 } : Room) (mP D H0 S kc ns [.ref h0]) (mQ D H0 gI (fun r S1 k1 n1 => kc = k1 ∧ ns = n1 ∧ fEq S S1 ∧ (r = 0 ∨ r = 1))) 0 0 (mF H0) := by
  refine r_met (own := RX6) (by decide +kernel) rfl (Nat.le_of_ble_eq_true rfl) ?_
  intro p e s m args below meth c C hr hlk hnm H ls hl hM
  obtain ⟨hx, hb, hml, hown, hts, -, -⟩ := id C
  have hl : lv_has ls 1 [(0, .ref h0)] := hl
  have hI0 := hI
  have hF : fEq S S := fEq.rf
  have t_0 : (0 : Int32).toInt = 0 := by decide
  have t_1 : (1 : Int32).toInt = 1 := by decide
  have t_3 : (3 : Int32).toInt = 3 := by decide
  refine lv_aload_n hx hb dX6_takeName_0 rfl (lv_at hl 0 rfl) ?_
  refine r_get (ci := 6) (k := 5) C hM kh0 f_X6_25 rfl dX6_takeName_1 ?_
  obtain ⟨rv1, erv1, krv1⟩ : ∃ r : Option Nat, mR S 605 h0 = r ∧ ∀ q, r = some q → mK S q = 6 := ⟨_, rfl, TI.opt hI.1 (ci := 6) (k := 5) kh0⟩
  refine W.eq (g2 := F0 m 4 ls [va_rf rv1]) (by rw [← erv1]; rfl) ?_
  cases rv1 with
  | none =>
    refine lv_ifnonnullN hx hb dX6_takeName_4 ?_
    refine lv_iconst (v := 0) hx hb dX6_takeName_7 (by decide) ?_
    exact r_retZ C hr hlk rfl hM (⟨rfl, rfl, hF, by decide⟩) dX6_takeName_8
  | some qv2 =>
    have kqv2 : mK S qv2 = 6 := krv1 qv2 rfl
    refine lv_ifnonnull (tgt := 9) hx hb dX6_takeName_4 (by decide) ?_
    refine lv_aload_n hx hb dX6_takeName_9 rfl (lv_at hl 0 rfl) ?_
    refine r_get (ci := 6) (k := 5) (v := .ref qv2) C hM kh0 f_X6_25 (congrArg va_rf (erv1)) dX6_takeName_10 ?_
    refine lv_aload_n hx hb dX6_takeName_13 rfl (lv_at hl 0 rfl) ?_
    obtain ⟨qv3, eqv3, kqv3, nqv3⟩ := TI.nn hI.1 (ci := 6) (k := 0) kh0
    refine r_get (ci := 6) (k := 0) (v := .ref qv3) C hM kh0 f_X6_33 (congrArg va_rf eqv3) dX6_takeName_14 ?_
    refine r_getN (ci := 10) (k := 4) (v := .long (mL S 1004 qv3)) C hM kqv3 f_X6_87 rfl dX6_takeName_17 ?_
    refine lv_topl (fun lv4 elv4 => ?_)
    refine r_putN C hM kqv2 f_X6_95 (fun r h => by cases h; rfl) rfl rfl (mPut.L (ci := 5) (k := 10) rfl) dX6_takeName_20 (fun H locs hM => ?_)
    have hM : mH D H0 (pL S 510 qv2 lv4) kc ns H locs := hM
    have hI := hI.fe (fEq.L (S := S) (f := 510) (a := qv2) (v := lv4))
    have hF := hF.trans (fEq.L (S := S) (f := 510) (a := qv2) (v := lv4))
    refine lv_aload_n hx hb dX6_takeName_23 rfl (lv_at hl 0 rfl) ?_
    refine lv_iconst (v := 3) hx hb dX6_takeName_24 (by decide) ?_
    refine r_put C hM kh0 f_X6_18 (fun r h => by cases h; rfl) rfl rfl (mPut.I (ci := 6) (k := 3) rfl) dX6_takeName_25 (fun H locs hM => ?_)
    have hM : mH D H0 (pI (pL S 510 qv2 lv4) 603 h0 3) kc ns H locs := hM
    have hI := hI.fe (fEq.I (S := (pL S 510 qv2 lv4)) (f := 603) (a := h0) (v := 3) (by decide))
    have hF := hF.trans (fEq.I (S := (pL S 510 qv2 lv4)) (f := 603) (a := h0) (v := 3) (by decide))
    refine lv_iconst (v := 1) hx hb dX6_takeName_28 (by decide) ?_
    exact r_retZ C hr hlk rfl hM (⟨rfl, rfl, hF, by decide⟩) dX6_takeName_29
set_option maxHeartbeats 4000000 in
set_option maxRecDepth 100000 in
theorem c_X6_takeText (l : Launch) (D : gD) (H0 : gB) (S : Mem) (kc ns : Nat) (h0 : Nat) {u : Nat} {tl : Int} {rho : Nat × Nat} (hI : CI x0 u tl rho S) (kh0 : mK S h0 = 7) : Met l yX6_takeText (wsU yX6_takeText cX6_takeText 1 (some .boolean)) ({ frames := 1, cells := 0, slots := 0, locals := 22 } : Room) (mP D H0 S kc ns [.ref h0]) (mQ D H0 gI (fun r S1 k1 n1 => kc = k1 ∧ ns = n1 ∧ fEq S S1 ∧ (r = 0 ∨ r = 1))) 0 0 (mF H0) := by
  refine r_met (own := RX6) (by decide +kernel) rfl (Nat.le_of_ble_eq_true rfl) ?_
  intro p e s m args below meth c C hr hlk hnm H ls hl hM
  obtain ⟨hx, hb, hml, hown, hts, -, -⟩ := id C
  have hl : lv_has ls 1 [(0, .ref h0)] := hl
  have hI0 := hI
  have hF : fEq S S := fEq.rf
  have t_0 : (0 : Int32).toInt = 0 := by decide
  have t_1 : (1 : Int32).toInt = 1 := by decide
  have t_3 : (3 : Int32).toInt = 3 := by decide
  have t_4 : (4 : Int32).toInt = 4 := by decide
  refine lv_aload_n hx hb dX6_takeText_0 rfl (lv_at hl 0 rfl) ?_
  refine lv_iconst (v := 3) hx hb dX6_takeText_1 (by decide) ?_
  refine lv_iconst (v := 4) hx hb dX6_takeText_2 (by decide) ?_
  refine r_V (As := [.int 3, .int 4]) (rest := []) (ci := 6) C hM (c_X6_move l D H0 S kc ns h0 3 4 hI kh0) i_X6_move m_X6_63 kh0 rfl rfl rfl hl.1 rfl (Nat.le_of_ble_eq_true rfl) ⟨by decide, by decide⟩ ⟨by decide, by decide⟩ dX6_takeText_3 (fun xv4 Sv1 kv2 nv3 H locs pv5 hM => ?_)
  obtain ⟨rfl, rfl, hf9, hmz, hmv⟩ := pv5
  have hF := hF.trans hf9
  have hI := hI.fe hf9
  have kh0 : mK Sv1 h0 = 7 := (congrFun (hf9.1) h0).trans kh0
  refine W.eq (g2 := F0 m 6 ls [.int xv4]) rfl ?_
  have hxv4 := hmz
  refine lv_if_ne (tgt := 11) hx hb dX6_takeText_6 (by decide) (fun cv6 => ?_) (fun cv6 => ?_)
  · have tcv6 := eqF cv6
    have h11 : mR Sv1 605 h0 ≠ none := by rw [congrFun (congrFun hf9.2.1 605) h0]; exact hmv (hmz.resolve_left (by assumption))
    obtain ⟨qL, eqL⟩ := Option.ne_none_iff_exists'.mp h11
    have kqL : mK Sv1 qL = 6 := (opt9 hI kh0).2 eqL
    refine lv_aload_n hx hb dX6_takeText_11 rfl (lv_at hl 0 rfl) ?_
    refine r_get (ci := 6) (k := 5) (v := .ref qL) C hM kh0 f_X6_25 (congrArg va_rf (eqL)) dX6_takeText_12 ?_
    refine lv_aload_n hx hb dX6_takeText_15 rfl (lv_at hl 0 rfl) ?_
    obtain ⟨qv7, eqv7, kqv7, nqv7⟩ := TI.nn hI.1 (ci := 6) (k := 0) kh0
    refine r_get (ci := 6) (k := 0) (v := .ref qv7) C hM kh0 f_X6_33 (congrArg va_rf eqv7) dX6_takeText_16 ?_
    refine r_getN (ci := 10) (k := 5) (v := .long (mL Sv1 1005 qv7)) C hM kqv7 f_X6_98 rfl dX6_takeText_19 ?_
    refine lv_topl (fun lv8 elv8 => ?_)
    refine r_putN C hM kqL f_X6_101 (fun r h => by cases h; rfl) rfl rfl (mPut.L (ci := 5) (k := 11) rfl) dX6_takeText_22 (fun H locs hM => ?_)
    have hM : mH D H0 (pL Sv1 511 qL lv8) kc ns H locs := hM
    have hI := hI.fe (fEq.L (S := Sv1) (f := 511) (a := qL) (v := lv8))
    have hF := hF.trans (fEq.L (S := Sv1) (f := 511) (a := qL) (v := lv8))
    refine lv_aload_n hx hb dX6_takeText_25 rfl (lv_at hl 0 rfl) ?_
    refine r_get (ci := 6) (k := 5) (v := .ref qL) C hM kh0 f_X6_25 (congrArg va_rf (eqL)) dX6_takeText_26 ?_
    refine lv_aload_n hx hb dX6_takeText_29 rfl (lv_at hl 0 rfl) ?_
    refine r_get (ci := 6) (k := 0) (v := .ref qv7) C hM kh0 f_X6_33 (congrArg va_rf (eqv7)) dX6_takeText_30 ?_
    refine r_getN (ci := 10) (k := 6) (v := .long (mL (pL Sv1 511 qL lv8) 1006 qv7)) C hM kqv7 f_X6_102 rfl dX6_takeText_33 ?_
    refine lv_topl (fun lv9 elv9 => ?_)
    refine r_putN C hM kqL f_X6_105 (fun r h => by cases h; rfl) rfl rfl (mPut.L (ci := 5) (k := 12) rfl) dX6_takeText_36 (fun H locs hM => ?_)
    have hM : mH D H0 (pL (pL Sv1 511 qL lv8) 512 qL lv9) kc ns H locs := hM
    have hI := hI.fe (fEq.L (S := (pL Sv1 511 qL lv8)) (f := 512) (a := qL) (v := lv9))
    have hF := hF.trans (fEq.L (S := (pL Sv1 511 qL lv8)) (f := 512) (a := qL) (v := lv9))
    refine lv_aload_n hx hb dX6_takeText_39 rfl (lv_at hl 0 rfl) ?_
    refine r_get (ci := 6) (k := 5) (v := .ref qL) C hM kh0 f_X6_25 (congrArg va_rf (eqL)) dX6_takeText_40 ?_
    refine lv_aload_n hx hb dX6_takeText_43 rfl (lv_at hl 0 rfl) ?_
    refine r_get (ci := 6) (k := 0) (v := .ref qv7) C hM kh0 f_X6_33 (congrArg va_rf (eqv7)) dX6_takeText_44 ?_
    refine r_getN (ci := 10) (k := 7) (v := .int (mI (pL (pL Sv1 511 qL lv8) 512 qL lv9) 1007 qv7)) C hM kqv7 f_X6_106 rfl dX6_takeText_47 ?_
    refine lv_topi (fun xv10 exv10 => ?_)
    refine r_putN C hM kqL f_X6_109 (fun r h => by cases h; rfl) rfl rfl (mPut.I (ci := 5) (k := 13) rfl) dX6_takeText_50 (fun H locs hM => ?_)
    have hM : mH D H0 (pI (pL (pL Sv1 511 qL lv8) 512 qL lv9) 513 qL xv10) kc ns H locs := hM
    have hI := hI.fe (fEq.I (S := (pL (pL Sv1 511 qL lv8) 512 qL lv9)) (f := 513) (a := qL) (v := xv10) (by decide))
    have hF := hF.trans (fEq.I (S := (pL (pL Sv1 511 qL lv8) 512 qL lv9)) (f := 513) (a := qL) (v := xv10) (by decide))
    refine lv_iconst (v := 1) hx hb dX6_takeText_53 (by decide) ?_
    exact r_retZ C hr hlk rfl hM (⟨rfl, rfl, hF, by decide⟩) dX6_takeText_54
  · have tcv6 := eqT cv6
    refine lv_iconst (v := 0) hx hb dX6_takeText_9 (by decide) ?_
    exact r_retZ C hr hlk rfl hM (⟨rfl, rfl, hF, by decide⟩) dX6_takeText_10
set_option maxHeartbeats 4000000 in
set_option maxRecDepth 100000 in
theorem c_X6_takeHarm (l : Launch) (D : gD) (H0 : gB) (S : Mem) (kc ns : Nat) (h0 : Nat) {u : Nat} {tl : Int} {rho : Nat × Nat} (hI : CI x0 u tl rho S) (kh0 : mK S h0 = 7) : Met l yX6_takeHarm (wsU yX6_takeHarm cX6_takeHarm 1 (some .boolean)) ({ frames := 1, cells := 0, slots := 0, locals := 22 } : Room) (mP D H0 S kc ns [.ref h0]) (mQ D H0 gI (fun r S1 k1 n1 => kc = k1 ∧ ns = n1 ∧ fEq S S1 ∧ (r = 0 ∨ r = 1))) 0 0 (mF H0) := by
  refine r_met (own := RX6) (by decide +kernel) rfl (Nat.le_of_ble_eq_true rfl) ?_
  intro p e s m args below meth c C hr hlk hnm H ls hl hM
  obtain ⟨hx, hb, hml, hown, hts, -, -⟩ := id C
  have hl : lv_has ls 1 [(0, .ref h0)] := hl
  have hI0 := hI
  have hF : fEq S S := fEq.rf
  have t_0 : (0 : Int32).toInt = 0 := by decide
  have t_1 : (1 : Int32).toInt = 1 := by decide
  have t_4 : (4 : Int32).toInt = 4 := by decide
  have t_5 : (5 : Int32).toInt = 5 := by decide
  refine lv_aload_n hx hb dX6_takeHarm_0 rfl (lv_at hl 0 rfl) ?_
  refine lv_iconst (v := 4) hx hb dX6_takeHarm_1 (by decide) ?_
  refine lv_iconst (v := 5) hx hb dX6_takeHarm_2 (by decide) ?_
  refine r_V (As := [.int 4, .int 5]) (rest := []) (ci := 6) C hM (c_X6_move l D H0 S kc ns h0 4 5 hI kh0) i_X6_move m_X6_63 kh0 rfl rfl rfl hl.1 rfl (Nat.le_of_ble_eq_true rfl) ⟨by decide, by decide⟩ ⟨by decide, by decide⟩ dX6_takeHarm_3 (fun xv4 Sv1 kv2 nv3 H locs pv5 hM => ?_)
  obtain ⟨rfl, rfl, hf9, hmz, hmv⟩ := pv5
  have hF := hF.trans hf9
  have hI := hI.fe hf9
  have kh0 : mK Sv1 h0 = 7 := (congrFun (hf9.1) h0).trans kh0
  refine W.eq (g2 := F0 m 6 ls [.int xv4]) rfl ?_
  have hxv4 := hmz
  refine lv_if_ne (tgt := 11) hx hb dX6_takeHarm_6 (by decide) (fun cv6 => ?_) (fun cv6 => ?_)
  · have tcv6 := eqF cv6
    have h11 : mR Sv1 605 h0 ≠ none := by rw [congrFun (congrFun hf9.2.1 605) h0]; exact hmv (hmz.resolve_left (by assumption))
    obtain ⟨qL, eqL⟩ := Option.ne_none_iff_exists'.mp h11
    have kqL : mK Sv1 qL = 6 := (opt9 hI kh0).2 eqL
    refine lv_aload_n hx hb dX6_takeHarm_11 rfl (lv_at hl 0 rfl) ?_
    refine r_get (ci := 6) (k := 5) (v := .ref qL) C hM kh0 f_X6_25 (congrArg va_rf (eqL)) dX6_takeHarm_12 ?_
    refine lv_iconst (v := 1) hx hb dX6_takeHarm_15 (by decide) ?_
    refine r_putN C hM kqL f_X6_110 (fun r h => by cases h; rfl) (nzb (by decide)) (fzb (by decide)) (mPut.I (ci := 5) (k := 14) rfl) dX6_takeHarm_16 (fun H locs hM => ?_)
    have hM : mH D H0 (pI Sv1 514 qL 1) kc ns H locs := hM
    have hI := hI.fe (fEq.I (S := Sv1) (f := 514) (a := qL) (v := 1) (by decide))
    have hF := hF.trans (fEq.I (S := Sv1) (f := 514) (a := qL) (v := 1) (by decide))
    refine lv_iconst (v := 1) hx hb dX6_takeHarm_19 (by decide) ?_
    exact r_retZ C hr hlk rfl hM (⟨rfl, rfl, hF, by decide⟩) dX6_takeHarm_20
  · have tcv6 := eqT cv6
    refine lv_iconst (v := 0) hx hb dX6_takeHarm_9 (by decide) ?_
    exact r_retZ C hr hlk rfl hM (⟨rfl, rfl, hF, by decide⟩) dX6_takeHarm_10
set_option maxHeartbeats 4000000 in
set_option maxRecDepth 100000 in
theorem c_X6_goDown (l : Launch) (D : gD) (H0 : gB) (S : Mem) (kc ns : Nat) (h0 : Nat) {u : Nat} {tl : Int} {rho : Nat × Nat} (hI : CI x0 u tl rho S) (kh0 : mK S h0 = 7) : Met l yX6_goDown (wsU yX6_goDown cX6_goDown 1 (some .boolean)) ({ frames := 1, cells := 0, slots := 0, locals := 22 } : Room) (mP D H0 S kc ns [.ref h0]) (mQ D H0 gI (fun r S1 k1 n1 => kc = k1 ∧ ns = n1 ∧ mK S1 = mK S ∧ CI x0 u tl rho S1 ∧ (mI S1 401 = mI S 401) ∧ (∀ pg, RD S h0 pg → RD S1 h0 pg) ∧ (r = 0 ∨ r = 1))) 0 0 (mF H0) := by
  refine r_met (own := RX6) (by decide +kernel) rfl (Nat.le_of_ble_eq_true rfl) ?_
  intro p e s m args below meth c C hr hlk hnm H ls hl hM
  obtain ⟨hx, hb, hml, hown, hts, -, -⟩ := id C
  have hl : lv_has ls 1 [(0, .ref h0)] := hl
  have hI0 := hI
  have hK9 : mK S = mK S := rfl
  have t_0 : (0 : Int32).toInt = 0 := by decide
  have t_1 : (1 : Int32).toInt = 1 := by decide
  have t_5 : (5 : Int32).toInt = 5 := by decide
  refine lv_aload_n hx hb dX6_goDown_0 rfl (lv_at hl 0 rfl) ?_
  refine lv_iconst (v := 5) hx hb dX6_goDown_1 (by decide) ?_
  refine lv_iconst (v := 0) hx hb dX6_goDown_2 (by decide) ?_
  refine r_V (As := [.int 5, .int 0]) (rest := []) (ci := 6) C hM (c_X6_move l D H0 S kc ns h0 5 0 hI kh0) i_X6_move m_X6_63 kh0 rfl rfl rfl hl.1 rfl (Nat.le_of_ble_eq_true rfl) ⟨by decide, by decide⟩ ⟨by decide, by decide⟩ dX6_goDown_3 (fun xv4 Sv1 kv2 nv3 H locs pv5 hM => ?_)
  obtain ⟨rfl, rfl, hf9, hmz, hmv⟩ := pv5
  have hK9 := hf9.1.trans hK9
  have hI := hI.fe hf9
  have kh0 : mK Sv1 h0 = 7 := (congrFun (hf9.1) h0).trans kh0
  refine W.eq (g2 := F0 m 6 ls [.int xv4]) rfl ?_
  have hxv4 := hmz
  refine lv_if_ne (tgt := 11) hx hb dX6_goDown_6 (by decide) (fun cv6 => ?_) (fun cv6 => ?_)
  · have tcv6 := eqF cv6
    have h11 : mR Sv1 605 h0 ≠ none := by rw [congrFun (congrFun hf9.2.1 605) h0]; exact hmv (hmz.resolve_left (by assumption))
    obtain ⟨qL, eqL⟩ := Option.ne_none_iff_exists'.mp h11
    have kqL : mK Sv1 qL = 6 := (opt9 hI kh0).2 eqL
    have hmF := hf9
    refine lv_aload_n hx hb dX6_goDown_11 rfl (lv_at hl 0 rfl) ?_
    refine lv_aload_n hx hb dX6_goDown_12 rfl (lv_at hl 0 rfl) ?_
    refine r_get (ci := 6) (k := 5) (v := .ref qL) C hM kh0 f_X6_25 (congrArg va_rf (eqL)) dX6_goDown_13 ?_
    refine r_put C hM kh0 f_X6_21 (fun r h => by cases h; rfl) rfl rfl (mPut.Rf (ci := 6) (k := 4) (x := (some qL)) rfl) dX6_goDown_16 (fun H locs hM => ?_)
    have hM : mH D H0 (pR Sv1 604 h0 (some qL)) kc ns H locs := hM
    have hI : CI x0 u tl rho (pR Sv1 604 h0 (some qL)) := CI.putR (ci := 6) (k := 4) hI kh0 (fun z h => by cases h; exact ⟨kqL, fun h => absurd rfl h⟩) (Or.inl rfl) (by decide) (by decide) (by decide)
    refine lv_iconst (v := 1) hx hb dX6_goDown_19 (by decide) ?_
    exact r_retZ C hr hlk rfl hM (⟨rfl, rfl, hK9, hI, hmF.2.2.2.2 401 (by decide), fun pg h => (h.fe hmF).p604 (fun q e => by cases e; exact (h.fe hmF).2 qL eqL), by decide⟩) dX6_goDown_20
  · have tcv6 := eqT cv6
    refine lv_iconst (v := 0) hx hb dX6_goDown_9 (by decide) ?_
    exact r_retZ C hr hlk rfl hM (⟨rfl, rfl, hK9, hI, hf9.2.2.2.2 401 (by decide), fun pg h => h.fe hf9, by decide⟩) dX6_goDown_10
