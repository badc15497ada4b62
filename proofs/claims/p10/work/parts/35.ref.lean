set_option maxHeartbeats 4000000 in
set_option maxRecDepth 100000 in
theorem c_X12_act (l : Launch) (D : gD) (H0 : gB) (h0 : Nat) (R : RS) (kc ns : Nat) (i0 i1 i2 : Int32) (hI : RI R)  : Met l yX12_act (wsU yX12_act cX12_act 4 (some .int)) ({ frames := 2, cells := 0, slots := 0, locals := 47 } : Room) (mP D H0 (rM h0 R) kc ns [.ref h0, .int i0, .int i1, .int i2]) (mQ D H0 gI (fun r S1 k1 n1 => kc = k1 ∧ ns = n1 ∧ ∃ R1, S1 = rM h0 R1 ∧ fr [10, 11, 12, 13, 14, 15, 16, 17, 18, 19, 20, 45, 46, 48, 51] R R1 ∧ RI R1)) 0 0 (mF H0) := by
  refine r_met (own := RX12) (by decide +kernel) rfl (Nat.le_of_ble_eq_true rfl) ?_
  intro p e s m args below meth c C hr hlk hnm H ls hl hM
  obtain ⟨hx, hb, hml, hown, hts, -, -⟩ := id C
  have hl : lv_has ls 4 [(0, .ref h0), (1, .int i0), (2, .int i1), (3, .int i2)] := hl
  have hF : fr [10, 11, 12, 13, 14, 15, 16, 17, 18, 19, 20, 45, 46, 48, 51] R R := fr.rf
  have hI0 := hI
  have t_m1 : (-1 : Int32).toInt = -1 := by decide
  have t_0 : (0 : Int32).toInt = 0 := by decide
  have t_1 : (1 : Int32).toInt = 1 := by decide
  have t_10 : (10 : Int32).toInt = 10 := by decide
  have t_20 : (20 : Int32).toInt = 20 := by decide
  have fm1 := RI.many hI i1.toNatClampNeg
  have fs := RI.acts hI
  refine lv_aload_n hx hb dX12_act_0 rfl (lv_at hl 0 rfl) ?_
  refine lv_iload_n hx hb dX12_act_1 rfl (lv_at hl 2 rfl) ?_
  refine lv_iload_n hx hb dX12_act_2 rfl (lv_at hl 3 rfl) ?_
  refine r_V (As := [.int i1, .int i2]) (rest := []) (ci := 12) C hM (c_X12_isPart l D H0 h0 R kc ns i1 i2 hI) i_X12_isPart m_X12_185 rK0 rfl rfl rfl hl.1 rfl (Nat.le_of_ble_eq_true rfl) ⟨by decide, by decide⟩ ⟨by decide, by decide⟩ dX12_act_3 (fun xv4 Sv1 kv2 nv3 H locs pv5 hM => ?_)
  obtain ⟨rfl, rfl, rfl, hxv4⟩ := pv5
  refine W.eq (g2 := F0 m 6 ls [.int xv4]) rfl ?_
  refine lv_if_eq (tgt := 18) hx hb dX12_act_6 (by decide) (fun cv6 => ?_) (fun cv6 => ?_)
  · have tcv6 := eqT cv6
    refine lv_iconst (v := -1) hx hb dX12_act_18 (by decide) ?_
    exact r_retI C hr hlk hM (⟨rfl, rfl, _, rfl, hF, hI⟩) dX12_act_19
  · have tcv6 := eqF cv6
    refine lv_aload_n hx hb dX12_act_9 rfl (lv_at hl 0 rfl) ?_
    refine rr_getI (k := 51) (v := rI R 51) C hM f_X12_313 rfl rfl dX12_act_10 ?_
    refine lv_topi (fun xv7 exv7 => ?_)
    have mxv7 : xv7.toInt = (rI R 51).toInt := by rw [exv7]
    have fxv7 : 0 ≤ xv7.toInt ∧ xv7.toInt ≤ 20 := by rw [exv7]; exact RI.acts hI
    refine lv_bipush (v := 20) hx hb dX12_act_13 (by decide) ?_
    refine lv_icmp_ne (tgt := 20) hx hb dX12_act_15 (by decide) (fun cv8 => ?_) (fun cv8 => ?_)
    · have tcv8 := eqF cv8
      refine lv_aload_n hx hb dX12_act_20 rfl (lv_at hl 0 rfl) ?_
      refine lv_iload_n hx hb dX12_act_21 rfl (lv_at hl 2 rfl) ?_
      refine lv_bipush (v := 10) hx hb dX12_act_22 (by decide) ?_
      refine lv_aload_n hx hb dX12_act_24 rfl (lv_at hl 0 rfl) ?_
      refine rr_getI (k := 51) (v := xv7) C hM f_X12_313 rfl (exv7.symm) dX12_act_25 ?_
      refine lv_iadd hx hb dX12_act_28 ?_
      refine lv_topi (fun xv9 exv9 => ?_)
      try (have txv9 := addI (a := 10) (b := xv7) (by omega) (by omega); rw [← exv9] at txv9)
      refine r_V (As := [.int i1, .int xv9]) (rest := []) (ci := 12) C hM (c_X12_copyPage l D H0 h0 R kc ns i1 xv9 hI (hI0.pg (g := i1.toNatClampNeg) (by have h7 := clI (x := i1) (by omega); omega)) (by omega) (by omega) (by omega) (by omega) (by omega) (by omega)) i_X12_copyPage m_X12_180 rK0 rfl rfl rfl hl.1 rfl (Nat.le_of_ble_eq_true rfl) ⟨by decide, by decide⟩ ⟨by decide, by decide⟩ dX12_act_29 (fun uv13 Sv10 kv11 nv12 H locs pv14 hM => ?_)
      obtain ⟨rfl, rfl, Rv15, rfl, hf9, ⟨hI, hcn, hct⟩⟩ := pv14
      have hF : fr [10, 11, 12, 13, 14, 15, 16, 17, 18, 19, 20, 45, 46, 48, 51] R Rv15 := hF.trans hf9 (by decide)
      have zv16 : (rI Rv15 36).toInt = (rI R 36).toInt := by rw [hf9.gI 36 (by decide)]
      have zv17 : (rI Rv15 51).toInt = (rI R 51).toInt := by rw [hf9.gI 51 (by decide)]
      have vv18 : rI Rv15 51 = xv7 := (hf9.gI 51 (by decide)).trans (exv7.symm)
      refine W.eq (g2 := F0 m 32 ls []) rfl ?_
      refine lv_aload_n hx hb dX12_act_32 rfl (lv_at hl 0 rfl) ?_
      refine rr_getA (k := 45) (j := 24) C hM f_X12_92 rfl rfl dX12_act_33 ?_
      refine lv_aload_n hx hb dX12_act_36 rfl (lv_at hl 0 rfl) ?_
      refine rr_getI (k := 51) (v := xv7) C hM f_X12_313 rfl (vv18) dX12_act_37 ?_
      refine lv_iload_n hx hb dX12_act_40 rfl (lv_at hl 1 rfl) ?_
      refine rr_stZ (j := 24) (k := 45) (n := 20) (i := xv7) (x := i0) C hM rfl rfl rfl (inI (by omega) (by show _ < (20 : Int); omega)) dX12_act_41 (fun H locs hM => ?_)
      have hM : mH D H0 (rM h0 (uA Rv15 45 xv7.toNatClampNeg (vp_nar .boolean i0))) kc ns H locs := hM
      have hF : fr [10, 11, 12, 13, 14, 15, 16, 17, 18, 19, 20, 45, 46, 48, 51] R (uA Rv15 45 xv7.toNatClampNeg (vp_nar .boolean i0)) := hF.A (by decide)
      have hI : RI (uA Rv15 45 xv7.toNatClampNeg (vp_nar .boolean i0)) := hI.fr (L := [45]) (fr.rf.A (by decide)) (by decide)
      refine lv_aload_n hx hb dX12_act_42 rfl (lv_at hl 0 rfl) ?_
      refine rr_getA (k := 46) (j := 25) C hM f_X12_95 rfl rfl dX12_act_43 ?_
      refine lv_aload_n hx hb dX12_act_46 rfl (lv_at hl 0 rfl) ?_
      refine rr_getI (k := 51) (v := xv7) C hM f_X12_313 rfl (vv18) dX12_act_47 ?_
      refine lv_iconst (v := 0) hx hb dX12_act_50 (by decide) ?_
      refine rr_stZ (j := 25) (k := 46) (n := 20) (i := xv7) (x := (0 : Int32)) C hM rfl rfl rfl (inI (by omega) (by show _ < (20 : Int); omega)) dX12_act_51 (fun H locs hM => ?_)
      have hM : mH D H0 (rM h0 (uA (uA Rv15 45 xv7.toNatClampNeg (vp_nar .boolean i0)) 46 xv7.toNatClampNeg (vp_nar .boolean (0 : Int32)))) kc ns H locs := hM
      have hF : fr [10, 11, 12, 13, 14, 15, 16, 17, 18, 19, 20, 45, 46, 48, 51] R (uA (uA Rv15 45 xv7.toNatClampNeg (vp_nar .boolean i0)) 46 xv7.toNatClampNeg (vp_nar .boolean (0 : Int32))) := hF.A (by decide)
      have hI : RI (uA (uA Rv15 45 xv7.toNatClampNeg (vp_nar .boolean i0)) 46 xv7.toNatClampNeg (vp_nar .boolean (0 : Int32))) := hI.st46 (by have z9 : (rI (uA Rv15 45 xv7.toNatClampNeg (vp_nar .boolean i0)) 51).toInt = (rI Rv15 51).toInt := rfl; have h7 := clI (x := xv7) (by omega); omega)
      refine lv_aload_n hx hb dX12_act_52 rfl (lv_at hl 0 rfl) ?_
      refine rr_getA (k := 48) (j := 27) C hM f_X12_101 rfl rfl dX12_act_53 ?_
      refine lv_aload_n hx hb dX12_act_56 rfl (lv_at hl 0 rfl) ?_
      refine rr_getI (k := 51) (v := xv7) C hM f_X12_313 rfl (vv18) dX12_act_57 ?_
      refine lv_iload_n hx hb dX12_act_60 rfl (lv_at hl 3 rfl) ?_
      refine rr_stI (j := 27) (k := 48) (n := 20) (i := xv7) (x := i2) C hM rfl rfl rfl (inI (by omega) (by show _ < (20 : Int); omega)) dX12_act_61 (fun H locs hM => ?_)
      have hM : mH D H0 (rM h0 (uA (uA (uA Rv15 45 xv7.toNatClampNeg (vp_nar .boolean i0)) 46 xv7.toNatClampNeg (vp_nar .boolean (0 : Int32))) 48 xv7.toNatClampNeg i2)) kc ns H locs := hM
      have hF : fr [10, 11, 12, 13, 14, 15, 16, 17, 18, 19, 20, 45, 46, 48, 51] R (uA (uA (uA Rv15 45 xv7.toNatClampNeg (vp_nar .boolean i0)) 46 xv7.toNatClampNeg (vp_nar .boolean (0 : Int32))) 48 xv7.toNatClampNeg i2) := hF.A (by decide)
      have hI : RI (uA (uA (uA Rv15 45 xv7.toNatClampNeg (vp_nar .boolean i0)) 46 xv7.toNatClampNeg (vp_nar .boolean (0 : Int32))) 48 xv7.toNatClampNeg i2) := hI.st48 (by have z9 : (rI (uA (uA Rv15 45 xv7.toNatClampNeg (vp_nar .boolean i0)) 46 xv7.toNatClampNeg (vp_nar .boolean (0 : Int32))) 51).toInt = (rI Rv15 51).toInt := rfl; have h7 := clI (x := xv7) (by omega); omega)
      refine lv_aload_n hx hb dX12_act_62 rfl (lv_at hl 0 rfl) ?_
      refine lv_dup hx hb dX12_act_63 rfl ?_
      refine rr_getI (k := 51) (v := xv7) C hM f_X12_313 rfl (vv18) dX12_act_64 ?_
      refine lv_iconst (v := 1) hx hb dX12_act_67 (by decide) ?_
      refine lv_iadd hx hb dX12_act_68 ?_
      refine lv_topi (fun xv19 exv19 => ?_)
      try (have txv19 := addI (a := xv7) (b := 1) (by omega) (by omega); rw [← exv19] at txv19)
      refine rr_putI (k := 51) (v := xv19) C hM f_X12_313 rfl (fun r h => by cases h; rfl) rfl dX12_act_69 (fun H locs hM => ?_)
      have hM : mH D H0 (rM h0 (uI (uA (uA (uA Rv15 45 xv7.toNatClampNeg (vp_nar .boolean i0)) 46 xv7.toNatClampNeg (vp_nar .boolean (0 : Int32))) 48 xv7.toNatClampNeg i2) 51 xv19)) kc ns H locs := hM
      have hF : fr [10, 11, 12, 13, 14, 15, 16, 17, 18, 19, 20, 45, 46, 48, 51] R (uI (uA (uA (uA Rv15 45 xv7.toNatClampNeg (vp_nar .boolean i0)) 46 xv7.toNatClampNeg (vp_nar .boolean (0 : Int32))) 48 xv7.toNatClampNeg i2) 51 xv19) := hF.I (by decide)
      have hI : RI (uI (uA (uA (uA Rv15 45 xv7.toNatClampNeg (vp_nar .boolean i0)) 46 xv7.toNatClampNeg (vp_nar .boolean (0 : Int32))) 48 xv7.toNatClampNeg i2) 51 xv19) := RI.up51 (i := xv7.toNatClampNeg) hI (by have z9 : (rI (uA (uA (uA Rv15 45 xv7.toNatClampNeg (vp_nar .boolean i0)) 46 xv7.toNatClampNeg (vp_nar .boolean (0 : Int32))) 48 xv7.toNatClampNeg i2) 51).toInt = (rI Rv15 51).toInt := rfl; have h7 := clI (x := xv7) (by omega); omega) (by have z9 : (rI (uA (uA (uA Rv15 45 xv7.toNatClampNeg (vp_nar .boolean i0)) 46 xv7.toNatClampNeg (vp_nar .boolean (0 : Int32))) 48 xv7.toNatClampNeg i2) 51).toInt = (rI Rv15 51).toInt := rfl; omega) (by have z9 : (rI (uA (uA (uA Rv15 45 xv7.toNatClampNeg (vp_nar .boolean i0)) 46 xv7.toNatClampNeg (vp_nar .boolean (0 : Int32))) 48 xv7.toNatClampNeg i2) 51).toInt = (rI Rv15 51).toInt := rfl; omega) (fun _ => by have e9 : rA (uA (uA (uA Rv15 45 xv7.toNatClampNeg (vp_nar .boolean i0)) 46 xv7.toNatClampNeg (vp_nar .boolean (0 : Int32))) 48 xv7.toNatClampNeg i2) 48 xv7.toNatClampNeg = i2 := u2e; have e8 : rA (uA (uA (uA Rv15 45 xv7.toNatClampNeg (vp_nar .boolean i0)) 46 xv7.toNatClampNeg (vp_nar .boolean (0 : Int32))) 48 xv7.toNatClampNeg i2) 10 = rA Rv15 10 := rfl; have h7 := clI (x := xv7) (by omega); have h8 := clI (x := xv9) (by omega); rw [e9, e8, show 10 + xv7.toNatClampNeg = xv9.toNatClampNeg by omega, hct]; omega)
      refine lv_aload_n hx hb dX12_act_72 rfl (lv_at hl 0 rfl) ?_
      refine rr_getI (k := 51) (v := xv19) C hM f_X12_313 rfl (rfl) dX12_act_73 ?_
      have zv20 : (rI (uI (uA (uA (uA Rv15 45 xv7.toNatClampNeg (vp_nar .boolean i0)) 46 xv7.toNatClampNeg (vp_nar .boolean (0 : Int32))) 48 xv7.toNatClampNeg i2) 51 xv19) 36).toInt = (rI R 36).toInt := by rw [hF.gI 36 (by decide)]
      have zv21 : (rI (uI (uA (uA (uA Rv15 45 xv7.toNatClampNeg (vp_nar .boolean i0)) 46 xv7.toNatClampNeg (vp_nar .boolean (0 : Int32))) 48 xv7.toNatClampNeg i2) 51 xv19) 51).toInt = xv19.toInt := rfl
      exact r_retI C hr hlk hM (⟨rfl, rfl, _, rfl, hF, hI⟩) dX12_act_76
    · have tcv8 := eqT cv8
      refine lv_iconst (v := -1) hx hb dX12_act_18 (by decide) ?_
      exact r_retI C hr hlk hM (⟨rfl, rfl, _, rfl, hF, hI⟩) dX12_act_19
set_option maxHeartbeats 4000000 in
set_option maxRecDepth 100000 in
theorem c_X12_loop (l : Launch) (D : gD) (H0 : gB) (h0 : Nat) (R : RS) (kc ns : Nat) (i0 i1 i2 i3 : Int32) (hI : RI R)  : Met l yX12_loop (wsU yX12_loop cX12_loop 5 (some .int)) ({ frames := 2, cells := 0, slots := 0, locals := 52 } : Room) (mP D H0 (rM h0 R) kc ns [.ref h0, .int i0, .int i1, .int i2, .int i3]) (mQ D H0 gI (fun r S1 k1 n1 => kc = k1 ∧ ns = n1 ∧ ∃ R1, S1 = rM h0 R1 ∧ fr [39, 40, 41, 42, 43, 44, 45, 46, 51] R R1 ∧ RI R1)) 0 0 (mF H0) := by
  refine r_met (own := RX12) (by decide +kernel) rfl (Nat.le_of_ble_eq_true rfl) ?_
  intro p e s m args below meth c C hr hlk hnm H ls hl hM
  obtain ⟨hx, hb, hml, hown, hts, -, -⟩ := id C
  have hl : lv_has ls 5 [(0, .ref h0), (1, .int i0), (2, .int i1), (3, .int i2), (4, .int i3)] := hl
  have hF : fr [39, 40, 41, 42, 43, 44, 45, 46, 51] R R := fr.rf
  have hI0 := hI
  have t_m1 : (-1 : Int32).toInt = -1 := by decide
  have t_0 : (0 : Int32).toInt = 0 := by decide
  have t_1 : (1 : Int32).toInt = 1 := by decide
  have t_20 : (20 : Int32).toInt = 20 := by decide
  have fm1 := RI.many hI i1.toNatClampNeg
  have fs := RI.acts hI
  refine lv_aload_n hx hb dX12_loop_0 rfl (lv_at hl 0 rfl) ?_
  refine lv_iload_n hx hb dX12_loop_1 rfl (lv_at hl 2 rfl) ?_
  refine lv_iload_n hx hb dX12_loop_2 rfl (lv_at hl 3 rfl) ?_
  refine r_V (As := [.int i1, .int i2]) (rest := []) (ci := 12) C hM (c_X12_isPart l D H0 h0 R kc ns i1 i2 hI) i_X12_isPart m_X12_185 rK0 rfl rfl rfl hl.1 rfl (Nat.le_of_ble_eq_true rfl) ⟨by decide, by decide⟩ ⟨by decide, by decide⟩ dX12_loop_3 (fun xv4 Sv1 kv2 nv3 H locs pv5 hM => ?_)
  obtain ⟨rfl, rfl, rfl, hxv4⟩ := pv5
  refine W.eq (g2 := F0 m 6 ls [.int xv4]) rfl ?_
  refine lv_if_eq (tgt := 43) hx hb dX12_loop_6 (by decide) (fun cv6 => ?_) (fun cv6 => ?_)
  · have tcv6 := eqT cv6
    refine lv_iconst (v := -1) hx hb dX12_loop_43 (by decide) ?_
    exact r_retI C hr hlk hM (⟨rfl, rfl, _, rfl, hF, hI⟩) dX12_loop_44
  · have tcv6 := eqF cv6
    refine lv_aload_n hx hb dX12_loop_9 rfl (lv_at hl 0 rfl) ?_
    refine lv_iload_n hx hb dX12_loop_10 rfl (lv_at hl 2 rfl) ?_
    refine lv_iload hx hb dX12_loop_11 (lv_at hl 4 rfl) ?_
    refine r_V (As := [.int i1, .int i3]) (rest := []) (ci := 12) C hM (c_X12_isPart l D H0 h0 R kc ns i1 i3 hI) i_X12_isPart m_X12_185 rK0 rfl rfl rfl hl.1 rfl (Nat.le_of_ble_eq_true rfl) ⟨by decide, by decide⟩ ⟨by decide, by decide⟩ dX12_loop_13 (fun xv10 Sv7 kv8 nv9 H locs pv11 hM => ?_)
    obtain ⟨rfl, rfl, rfl, hxv10⟩ := pv11
    refine W.eq (g2 := F0 m 16 ls [.int xv10]) rfl ?_
    refine lv_if_eq (tgt := 43) hx hb dX12_loop_16 (by decide) (fun cv12 => ?_) (fun cv12 => ?_)
    · have tcv12 := eqT cv12
      refine lv_iconst (v := -1) hx hb dX12_loop_43 (by decide) ?_
      exact r_retI C hr hlk hM (⟨rfl, rfl, _, rfl, hF, hI⟩) dX12_loop_44
    · have tcv12 := eqF cv12
      refine lv_aload_n hx hb dX12_loop_19 rfl (lv_at hl 0 rfl) ?_
      refine rr_getI (k := 51) (v := rI R 51) C hM f_X12_313 rfl rfl dX12_loop_20 ?_
      refine lv_topi (fun xv13 exv13 => ?_)
      have mxv13 : xv13.toInt = (rI R 51).toInt := by rw [exv13]
      have fxv13 : 0 ≤ xv13.toInt ∧ xv13.toInt ≤ 20 := by rw [exv13]; exact RI.acts hI
      refine lv_bipush (v := 20) hx hb dX12_loop_23 (by decide) ?_
      refine lv_icmp_eq (tgt := 43) hx hb dX12_loop_25 (by decide) (fun cv14 => ?_) (fun cv14 => ?_)
      · have tcv14 := eqT cv14
        refine lv_iconst (v := -1) hx hb dX12_loop_43 (by decide) ?_
        exact r_retI C hr hlk hM (⟨rfl, rfl, _, rfl, hF, hI⟩) dX12_loop_44
      · have tcv14 := eqF cv14
        refine lv_aload_n hx hb dX12_loop_28 rfl (lv_at hl 0 rfl) ?_
        refine lv_aload_n hx hb dX12_loop_29 rfl (lv_at hl 0 rfl) ?_
        refine rr_getI (k := 51) (v := xv13) C hM f_X12_313 rfl (exv13.symm) dX12_loop_30 ?_
        refine lv_iload_n hx hb dX12_loop_33 rfl (lv_at hl 2 rfl) ?_
        refine lv_iload_n hx hb dX12_loop_34 rfl (lv_at hl 3 rfl) ?_
        refine lv_iload hx hb dX12_loop_35 (lv_at hl 4 rfl) ?_
        refine r_V (As := [.int xv13, .int i1, .int i2, .int i3]) (rest := []) (ci := 12) C hM (c_X12_lay l D H0 h0 R kc ns xv13 i1 i2 i3 hI (by omega) (by omega) (by omega) (by omega) (by omega) (by rw [hF.gA 10 (by decide)]; omega) (by omega) (by rw [hF.gA 10 (by decide)]; omega)) i_X12_lay m_X12_304 rK0 rfl rfl rfl hl.1 rfl (Nat.le_of_ble_eq_true rfl) ⟨by decide, by decide⟩ ⟨by decide, by decide⟩ dX12_loop_37 (fun xv18 Sv15 kv16 nv17 H locs pv19 hM => ?_)
        obtain ⟨rfl, rfl, Rv20, rfl, hf9, ⟨hI, hxv18⟩⟩ := pv19
        have hF : fr [39, 40, 41, 42, 43, 44, 45, 46, 51] R Rv20 := hF.trans hf9 (by decide)
        have zv21 : (rI Rv20 51).toInt = (rI R 51).toInt := by rw [hf9.gI 51 (by decide)]
        have vv22 : rI Rv20 51 = xv13 := (hf9.gI 51 (by decide)).trans (exv13.symm)
        refine W.eq (g2 := F0 m 40 ls [.int xv18]) rfl ?_
        refine lv_if_ne (tgt := 45) hx hb dX12_loop_40 (by decide) (fun cv23 => ?_) (fun cv23 => ?_)
        · have tcv23 := eqF cv23
          refine lv_aload_n hx hb dX12_loop_45 rfl (lv_at hl 0 rfl) ?_
          refine rr_getA (k := 45) (j := 24) C hM f_X12_92 rfl rfl dX12_loop_46 ?_
          refine lv_aload_n hx hb dX12_loop_49 rfl (lv_at hl 0 rfl) ?_
          refine rr_getI (k := 51) (v := xv13) C hM f_X12_313 rfl (vv22) dX12_loop_50 ?_
          refine lv_iload_n hx hb dX12_loop_53 rfl (lv_at hl 1 rfl) ?_
          refine rr_stZ (j := 24) (k := 45) (n := 20) (i := xv13) (x := i0) C hM rfl rfl rfl (inI (by omega) (by show _ < (20 : Int); omega)) dX12_loop_54 (fun H locs hM => ?_)
          have hM : mH D H0 (rM h0 (uA Rv20 45 xv13.toNatClampNeg (vp_nar .boolean i0))) kc ns H locs := hM
          have hF : fr [39, 40, 41, 42, 43, 44, 45, 46, 51] R (uA Rv20 45 xv13.toNatClampNeg (vp_nar .boolean i0)) := hF.A (by decide)
          have hI : RI (uA Rv20 45 xv13.toNatClampNeg (vp_nar .boolean i0)) := hI.fr (L := [45]) (fr.rf.A (by decide)) (by decide)
          refine lv_aload_n hx hb dX12_loop_55 rfl (lv_at hl 0 rfl) ?_
          refine rr_getA (k := 46) (j := 25) C hM f_X12_95 rfl rfl dX12_loop_56 ?_
          refine lv_aload_n hx hb dX12_loop_59 rfl (lv_at hl 0 rfl) ?_
          refine rr_getI (k := 51) (v := xv13) C hM f_X12_313 rfl (vv22) dX12_loop_60 ?_
          refine lv_iconst (v := 1) hx hb dX12_loop_63 (by decide) ?_
          refine rr_stZ (j := 25) (k := 46) (n := 20) (i := xv13) (x := (1 : Int32)) C hM rfl rfl rfl (inI (by omega) (by show _ < (20 : Int); omega)) dX12_loop_64 (fun H locs hM => ?_)
          have hM : mH D H0 (rM h0 (uA (uA Rv20 45 xv13.toNatClampNeg (vp_nar .boolean i0)) 46 xv13.toNatClampNeg (vp_nar .boolean (1 : Int32)))) kc ns H locs := hM
          have hF : fr [39, 40, 41, 42, 43, 44, 45, 46, 51] R (uA (uA Rv20 45 xv13.toNatClampNeg (vp_nar .boolean i0)) 46 xv13.toNatClampNeg (vp_nar .boolean (1 : Int32))) := hF.A (by decide)
          have hI : RI (uA (uA Rv20 45 xv13.toNatClampNeg (vp_nar .boolean i0)) 46 xv13.toNatClampNeg (vp_nar .boolean (1 : Int32))) := hI.st46 (by have z9 : (rI (uA Rv20 45 xv13.toNatClampNeg (vp_nar .boolean i0)) 51).toInt = (rI Rv20 51).toInt := rfl; have h7 := clI (x := xv13) (by omega); omega)
          refine lv_aload_n hx hb dX12_loop_65 rfl (lv_at hl 0 rfl) ?_
          refine lv_dup hx hb dX12_loop_66 rfl ?_
          refine rr_getI (k := 51) (v := xv13) C hM f_X12_313 rfl (vv22) dX12_loop_67 ?_
          refine lv_iconst (v := 1) hx hb dX12_loop_70 (by decide) ?_
          refine lv_iadd hx hb dX12_loop_71 ?_
          refine lv_topi (fun xv24 exv24 => ?_)
          try (have txv24 := addI (a := xv13) (b := 1) (by omega) (by omega); rw [← exv24] at txv24)
          refine rr_putI (k := 51) (v := xv24) C hM f_X12_313 rfl (fun r h => by cases h; rfl) rfl dX12_loop_72 (fun H locs hM => ?_)
          have hM : mH D H0 (rM h0 (uI (uA (uA Rv20 45 xv13.toNatClampNeg (vp_nar .boolean i0)) 46 xv13.toNatClampNeg (vp_nar .boolean (1 : Int32))) 51 xv24)) kc ns H locs := hM
          have hF : fr [39, 40, 41, 42, 43, 44, 45, 46, 51] R (uI (uA (uA Rv20 45 xv13.toNatClampNeg (vp_nar .boolean i0)) 46 xv13.toNatClampNeg (vp_nar .boolean (1 : Int32))) 51 xv24) := hF.I (by decide)
          have hI : RI (uI (uA (uA Rv20 45 xv13.toNatClampNeg (vp_nar .boolean i0)) 46 xv13.toNatClampNeg (vp_nar .boolean (1 : Int32))) 51 xv24) := RI.up51 (i := xv13.toNatClampNeg) hI (by have z9 : (rI (uA (uA Rv20 45 xv13.toNatClampNeg (vp_nar .boolean i0)) 46 xv13.toNatClampNeg (vp_nar .boolean (1 : Int32))) 51).toInt = (rI Rv20 51).toInt := rfl; have h7 := clI (x := xv13) (by omega); omega) (by have z9 : (rI (uA (uA Rv20 45 xv13.toNatClampNeg (vp_nar .boolean i0)) 46 xv13.toNatClampNeg (vp_nar .boolean (1 : Int32))) 51).toInt = (rI Rv20 51).toInt := rfl; omega) (by have z9 : (rI (uA (uA Rv20 45 xv13.toNatClampNeg (vp_nar .boolean i0)) 46 xv13.toNatClampNeg (vp_nar .boolean (1 : Int32))) 51).toInt = (rI Rv20 51).toInt := rfl; omega) (fun h9 => absurd ((u2e : rA (uA (uA Rv20 45 xv13.toNatClampNeg (vp_nar .boolean i0)) 46 xv13.toNatClampNeg (vp_nar .boolean (1 : Int32))) 46 xv13.toNatClampNeg = vp_nar .boolean 1).symm.trans h9) (by decide))
          refine lv_aload_n hx hb dX12_loop_75 rfl (lv_at hl 0 rfl) ?_
          refine rr_getI (k := 51) (v := xv24) C hM f_X12_313 rfl (rfl) dX12_loop_76 ?_
          have zv25 : (rI (uI (uA (uA Rv20 45 xv13.toNatClampNeg (vp_nar .boolean i0)) 46 xv13.toNatClampNeg (vp_nar .boolean (1 : Int32))) 51 xv24) 51).toInt = xv24.toInt := rfl
          exact r_retI C hr hlk hM (⟨rfl, rfl, _, rfl, hF, hI⟩) dX12_loop_79
        · have tcv23 := eqT cv23
          refine lv_iconst (v := -1) hx hb dX12_loop_43 (by decide) ?_
          exact r_retI C hr hlk hM (⟨rfl, rfl, _, rfl, hF, hI⟩) dX12_loop_44
set_option maxHeartbeats 4000000 in
set_option maxRecDepth 100000 in
theorem c_X12_does (l : Launch) (D : gD) (H0 : gB) (h0 : Nat) (R : RS) (kc ns : Nat) (i0 i1 i2 : Int32) (hI : RI R) (r0 : 0 ≤ i0.toInt) (r1 : i0.toInt < 20) (g01 : 0 ≤ i1.toInt) (g11 : i1.toInt < 30) (p02 : 0 ≤ i2.toInt) (p12 : i2.toInt < (rA R 10 i1.toNatClampNeg).toInt) (d0 : 0 ≤ (rI R 55).toInt) (d1 : (rI R 55).toInt ≤ 1000000)  : Met l yX12_does (wsU yX12_does cX12_does 6 (some .boolean)) ({ frames := 2, cells := 0, slots := 0, locals := 44 } : Room) (mP D H0 (rM h0 R) kc ns [.ref h0, .int i0, .int i1, .int i2]) (mQ D H0 gI (fun r S1 k1 n1 => kc = k1 ∧ ns = n1 ∧ ∃ R1, S1 = rM h0 R1 ∧ fr [16, 47, 49, 50, 52, 53, 54, 55] R R1 ∧ RI R1 ∧ (0 ≤ (rI R1 55).toInt ∧ (rI R1 55).toInt ≤ (rI R 55).toInt + 1) ∧ (r = 0 ∨ r = 1))) 0 0 (mF H0) := by
  refine r_met (own := RX12) (by decide +kernel) rfl (Nat.le_of_ble_eq_true rfl) ?_
  intro p e s m args below meth c C hr hlk hnm H ls hl hM
  obtain ⟨hx, hb, hml, hown, hts, -, -⟩ := id C
  have hl : lv_has ls 6 [(0, .ref h0), (1, .int i0), (2, .int i1), (3, .int i2)] := hl
  have hF : fr [16, 47, 49, 50, 52, 53, 54, 55] R R := fr.rf
  have hI0 := hI
  have t_0 : (0 : Int32).toInt = 0 := by decide
  have t_1 : (1 : Int32).toInt = 1 := by decide
  have t_3 : (3 : Int32).toInt = 3 := by decide
  have t_16 : (16 : Int32).toInt = 16 := by decide
  have t_40 : (40 : Int32).toInt = 40 := by decide
  have fm1 := RI.many hI i1.toNatClampNeg
  refine lv_iload_n hx hb dX12_does_0 rfl (lv_at hl 2 rfl) ?_
  refine lv_iload_n hx hb dX12_does_1 rfl (lv_at hl 3 rfl) ?_
  refine r_S (As := [.int i1, .int i2]) (rest := []) C hM (c_X12_spot l D H0 (rM h0 R) kc ns i1 i2 (by omega) (by omega) (by omega) (by omega)) i_X12_spot m_X12_151 rfl hl.1 rfl (Nat.le_of_ble_eq_true rfl) ⟨by decide, by decide⟩ ⟨by decide, by decide⟩ dX12_does_2 (fun xv4 Sv1 kv2 nv3 H locs pv5 hM => ?_)
  obtain ⟨rfl, rfl, rfl, hxv4⟩ := pv5
  refine W.eq (g2 := F0 m 5 ls [.int xv4]) rfl ?_
  refine lv_istore (lv' := [(4, .int xv4), (0, .ref h0), (1, .int i0), (2, .int i1), (3, .int i2)]) hx hb dX12_does_5 hl (by decide) rfl (fun ls hl => ?_)
  refine lv_aload_n hx hb dX12_does_7 rfl (lv_at hl 1 rfl) ?_
  refine rr_getA (k := 45) (j := 24) C hM f_X12_92 rfl rfl dX12_does_8 ?_
  refine lv_iload_n hx hb dX12_does_11 rfl (lv_at hl 2 rfl) ?_
  refine rr_ldZ (j := 24) (k := 45) (n := 20) (v := rA R 45 i0.toNatClampNeg) C hM rfl rfl rfl (inI (by omega) (by show _ < (20 : Int); omega)) (congrFun (hF.gA 45 (by decide)) i0.toNatClampNeg) dX12_does_12 ?_
  refine lv_topi (fun xv6 exv6 => ?_)
  refine lv_if_ne (tgt := 116) hx hb dX12_does_13 (by decide) (fun cv7 => ?_) (fun cv7 => ?_)
  · have tcv7 := eqF cv7
    refine lv_aload_n hx hb dX12_does_116 rfl (lv_at hl 1 rfl) ?_
    refine lv_iload_n hx hb dX12_does_117 rfl (lv_at hl 3 rfl) ?_
    refine lv_iload_n hx hb dX12_does_118 rfl (lv_at hl 4 rfl) ?_
    refine r_V (As := [.int i1, .int i2]) (rest := []) (ci := 12) C hM (c_X12_isInHarm l D H0 h0 R kc ns i1 i2 hI (by omega) (by omega) (by omega) (by rw [hF.gA 10 (by decide)]; omega)) i_X12_isInHarm m_X12_319 rK0 rfl rfl rfl hl.1 rfl (Nat.le_of_ble_eq_true rfl) ⟨by decide, by decide⟩ ⟨by decide, by decide⟩ dX12_does_119 (fun xv11 Sv8 kv9 nv10 H locs pv12 hM => ?_)
    obtain ⟨rfl, rfl, rfl, hxv11⟩ := pv12
    refine W.eq (g2 := F0 m 122 ls [.int xv11]) rfl ?_
    refine lv_if_eq (tgt := 137) hx hb dX12_does_122 (by decide) (fun cv13 => ?_) (fun cv13 => ?_)
    · have tcv13 := eqT cv13
      refine lv_aload_n hx hb dX12_does_137 rfl (lv_at hl 1 rfl) ?_
      refine rr_getA (k := 47) (j := 26) C hM f_X12_98 rfl rfl dX12_does_138 ?_
      refine lv_iload_n hx hb dX12_does_141 rfl (lv_at hl 4 rfl) ?_
      refine rr_ldZ (j := 26) (k := 47) (n := 60) (v := rA R 47 i2.toNatClampNeg) C hM rfl rfl rfl (inI (by omega) (by show _ < (60 : Int); omega)) rfl dX12_does_142 ?_
      refine lv_topi (fun xv14 exv14 => ?_)
      refine lv_if_eq (tgt := 148) hx hb dX12_does_143 (by decide) (fun cv15 => ?_) (fun cv15 => ?_)
      · have tcv15 := eqT cv15
        refine lv_aload_n hx hb dX12_does_148 rfl (lv_at hl 1 rfl) ?_
        refine rr_getA (k := 47) (j := 26) C hM f_X12_98 rfl rfl dX12_does_149 ?_
        refine lv_iload_n hx hb dX12_does_152 rfl (lv_at hl 4 rfl) ?_
        refine lv_iconst (v := 1) hx hb dX12_does_153 (by decide) ?_
        refine rr_stZ (j := 26) (k := 47) (n := 60) (i := i2) (x := (1 : Int32)) C hM rfl rfl rfl (inI (by omega) (by show _ < (60 : Int); omega)) dX12_does_154 (fun H locs hM => ?_)
        have hM : mH D H0 (rM h0 (uA R 47 i2.toNatClampNeg (vp_nar .boolean (1 : Int32)))) kc ns H locs := hM
        have hF : fr [16, 47, 49, 50, 52, 53, 54, 55] R (uA R 47 i2.toNatClampNeg (vp_nar .boolean (1 : Int32))) := hF.A (by decide)
        have hI : RI (uA R 47 i2.toNatClampNeg (vp_nar .boolean (1 : Int32))) := hI.fr (L := [47]) (fr.rf.A (by decide)) (by decide)
        refine lv_aload_n hx hb dX12_does_155 rfl (lv_at hl 1 rfl) ?_
        refine rr_getA (k := 16) (j := 8) C hM f_X12_39 rfl rfl dX12_does_156 ?_
        refine lv_iload hx hb dX12_does_159 (lv_at hl 0 rfl) ?_
        refine lv_dup2_11 hx hb dX12_does_161 rfl rfl ?_
        refine rr_ldI (j := 8) (k := 16) (n := 1860) (v := rA R 16 xv4.toNatClampNeg) C hM rfl rfl rfl (inI (by omega) (by show _ < (1860 : Int); omega)) rfl dX12_does_162 ?_
        refine lv_topi (fun xv16 exv16 => ?_)
        refine lv_iconst (v := 1) hx hb dX12_does_163 (by decide) ?_
        refine lv_iadd hx hb dX12_does_164 ?_
        refine lv_topi (fun xv17 exv17 => ?_)
        try (have txv17 := addI (a := xv16) (b := 1) (by omega) (by omega); rw [← exv17] at txv17)
        refine rr_stI (j := 8) (k := 16) (n := 1860) (i := xv4) (x := xv17) C hM rfl rfl rfl (inI (by omega) (by show _ < (1860 : Int); omega)) dX12_does_165 (fun H locs hM => ?_)
        have hM : mH D H0 (rM h0 (uA (uA R 47 i2.toNatClampNeg (vp_nar .boolean (1 : Int32))) 16 xv4.toNatClampNeg xv17)) kc ns H locs := hM
        have hF : fr [16, 47, 49, 50, 52, 53, 54, 55] R (uA (uA R 47 i2.toNatClampNeg (vp_nar .boolean (1 : Int32))) 16 xv4.toNatClampNeg xv17) := hF.A (by decide)
        have hI : RI (uA (uA R 47 i2.toNatClampNeg (vp_nar .boolean (1 : Int32))) 16 xv4.toNatClampNeg xv17) := hI.fr (L := [16]) (fr.rf.A (by decide)) (by decide)
        refine lv_aload_n hx hb dX12_does_166 rfl (lv_at hl 1 rfl) ?_
        refine lv_dup hx hb dX12_does_167 rfl ?_
        refine rr_getI (k := 54) (v := rI R 54) C hM f_X12_328 rfl rfl dX12_does_168 ?_
        refine lv_topi (fun xv18 exv18 => ?_)
        have mxv18 : xv18.toInt = (rI R 54).toInt := by rw [exv18]
        refine lv_iconst (v := 1) hx hb dX12_does_171 (by decide) ?_
        refine lv_iadd hx hb dX12_does_172 ?_
        refine lv_topi (fun xv19 exv19 => ?_)
        try (have txv19 := addI (a := xv18) (b := 1) (by omega) (by omega); rw [← exv19] at txv19)
        refine rr_putI (k := 54) (v := xv19) C hM f_X12_328 rfl (fun r h => by cases h; rfl) rfl dX12_does_173 (fun H locs hM => ?_)
        have hM : mH D H0 (rM h0 (uI (uA (uA R 47 i2.toNatClampNeg (vp_nar .boolean (1 : Int32))) 16 xv4.toNatClampNeg xv17) 54 xv19)) kc ns H locs := hM
        have hF : fr [16, 47, 49, 50, 52, 53, 54, 55] R (uI (uA (uA R 47 i2.toNatClampNeg (vp_nar .boolean (1 : Int32))) 16 xv4.toNatClampNeg xv17) 54 xv19) := hF.I (by decide)
        have hI : RI (uI (uA (uA R 47 i2.toNatClampNeg (vp_nar .boolean (1 : Int32))) 16 xv4.toNatClampNeg xv17) 54 xv19) := hI.fr (L := [54]) (fr.rf.I (by decide)) (by decide)
        refine lv_iconst (v := 1) hx hb dX12_does_176 (by decide) ?_
        have zv20 : (rI (uI (uA (uA R 47 i2.toNatClampNeg (vp_nar .boolean (1 : Int32))) 16 xv4.toNatClampNeg xv17) 54 xv19) 55).toInt = (rI R 55).toInt := rfl
        exact r_retZ C hr hlk rfl hM (⟨rfl, rfl, _, rfl, hF, hI, by omega, by decide⟩) dX12_does_177
      · have tcv15 := eqF cv15
        refine lv_iconst (v := 1) hx hb dX12_does_146 (by decide) ?_
        exact r_retZ C hr hlk rfl hM (⟨rfl, rfl, _, rfl, hF, hI, by omega, by decide⟩) dX12_does_147
    · have tcv13 := eqF cv13
      refine lv_aload_n hx hb dX12_does_125 rfl (lv_at hl 1 rfl) ?_
      refine lv_iconst (v := 3) hx hb dX12_does_126 (by decide) ?_
      refine rr_putI (k := 52) (v := (3 : Int32)) C hM f_X12_322 rfl (fun r h => by cases h; rfl) rfl dX12_does_127 (fun H locs hM => ?_)
      have hM : mH D H0 (rM h0 (uI R 52 (3 : Int32))) kc ns H locs := hM
      have hF : fr [16, 47, 49, 50, 52, 53, 54, 55] R (uI R 52 (3 : Int32)) := hF.I (by decide)
      have hI : RI (uI R 52 (3 : Int32)) := hI.fr (L := [52]) (fr.rf.I (by decide)) (by decide)
      refine lv_aload_n hx hb dX12_does_130 rfl (lv_at hl 1 rfl) ?_
      refine lv_iload_n hx hb dX12_does_131 rfl (lv_at hl 4 rfl) ?_
      refine rr_putI (k := 53) (v := i2) C hM f_X12_325 rfl (fun r h => by cases h; rfl) rfl dX12_does_132 (fun H locs hM => ?_)
      have hM : mH D H0 (rM h0 (uI (uI R 52 (3 : Int32)) 53 i2)) kc ns H locs := hM
      have hF : fr [16, 47, 49, 50, 52, 53, 54, 55] R (uI (uI R 52 (3 : Int32)) 53 i2) := hF.I (by decide)
      have hI : RI (uI (uI R 52 (3 : Int32)) 53 i2) := hI.fr (L := [53]) (fr.rf.I (by decide)) (by decide)
      refine lv_iconst (v := 0) hx hb dX12_does_135 (by decide) ?_
      have zv21 : (rI (uI (uI R 52 (3 : Int32)) 53 i2) 55).toInt = (rI R 55).toInt := rfl
      exact r_retZ C hr hlk rfl hM (⟨rfl, rfl, _, rfl, hF, hI, by omega, by decide⟩) dX12_does_136
  · have tcv7 := eqT cv7
    refine lv_aload_n hx hb dX12_does_16 rfl (lv_at hl 1 rfl) ?_
    refine rr_getI (k := 55) (v := rI R 55) C hM f_X12_316 rfl rfl dX12_does_17 ?_
    refine lv_topi (fun xv22 exv22 => ?_)
    have mxv22 : xv22.toInt = (rI R 55).toInt := by rw [exv22]
    refine lv_bipush (v := 40) hx hb dX12_does_20 (by decide) ?_
    refine lv_icmp_ge (tgt := 104) hx hb dX12_does_22 (by decide) (fun cv23 => ?_) (fun cv23 => ?_)
    · have tcv23 := leT cv23
      refine lv_aload_n hx hb dX12_does_104 rfl (lv_at hl 1 rfl) ?_
      refine lv_dup hx hb dX12_does_105 rfl ?_
      refine rr_getI (k := 55) (v := xv22) C hM f_X12_316 rfl (exv22.symm) dX12_does_106 ?_
      refine lv_iconst (v := 1) hx hb dX12_does_109 (by decide) ?_
      refine lv_iadd hx hb dX12_does_110 ?_
      refine lv_topi (fun xv24 exv24 => ?_)
      try (have txv24 := addI (a := xv22) (b := 1) (by omega) (by omega); rw [← exv24] at txv24)
      refine rr_putI (k := 55) (v := xv24) C hM f_X12_316 rfl (fun r h => by cases h; rfl) rfl dX12_does_111 (fun H locs hM => ?_)
      have hM : mH D H0 (rM h0 (uI R 55 xv24)) kc ns H locs := hM
      have hF : fr [16, 47, 49, 50, 52, 53, 54, 55] R (uI R 55 xv24) := hF.I (by decide)
      have hI : RI (uI R 55 xv24) := hI.fr (L := [55]) (fr.rf.I (by decide)) (by decide)
      refine lv_iconst (v := 1) hx hb dX12_does_114 (by decide) ?_
      have zv25 : (rI (uI R 55 xv24) 55).toInt = xv24.toInt := rfl
      exact r_retZ C hr hlk rfl hM (⟨rfl, rfl, _, rfl, hF, hI, by omega, by decide⟩) dX12_does_115
    · have tcv23 := leF cv23
      refine lv_aload_n hx hb dX12_does_25 rfl (lv_at hl 1 rfl) ?_
      refine rr_getA (k := 49) (j := 28) C hM f_X12_104 rfl rfl dX12_does_26 ?_
      refine lv_aload_n hx hb dX12_does_29 rfl (lv_at hl 1 rfl) ?_
      refine rr_getI (k := 55) (v := xv22) C hM f_X12_316 rfl (exv22.symm) dX12_does_30 ?_
      refine lv_aload_n hx hb dX12_does_33 rfl (lv_at hl 1 rfl) ?_
      refine rr_getA (k := 15) (j := 7) C hM f_X12_36 rfl rfl dX12_does_34 ?_
      refine lv_iload hx hb dX12_does_37 (lv_at hl 0 rfl) ?_
      refine rr_ldI (j := 7) (k := 15) (n := 1860) (v := rA R 15 xv4.toNatClampNeg) C hM rfl rfl rfl (inI (by omega) (by show _ < (1860 : Int); omega)) (congrFun (hF.gA 15 (by decide)) xv4.toNatClampNeg) dX12_does_39 ?_
      refine lv_topi (fun xv26 exv26 => ?_)
      have fxv26 := RI.words hI0 xv4.toNatClampNeg; rw [← exv26] at fxv26
      refine lv_if_ge (tgt := 47) hx hb dX12_does_40 (by decide) (fun cv27 => ?_) (fun cv27 => ?_)
      · have tcv27 := leT cv27
        refine lv_aload_n hx hb dX12_does_47 rfl (lv_at hl 1 rfl) ?_
        refine rr_getA (k := 15) (j := 7) C hM f_X12_36 rfl rfl dX12_does_48 ?_
        refine lv_iload hx hb dX12_does_51 (lv_at hl 0 rfl) ?_
        refine rr_ldI (j := 7) (k := 15) (n := 1860) (v := xv26) C hM rfl rfl rfl (inI (by omega) (by show _ < (1860 : Int); omega)) ((congrFun (hF.gA 15 (by decide)) xv4.toNatClampNeg).trans exv26.symm) dX12_does_53 ?_
        refine rr_stI (j := 28) (k := 49) (n := 40) (i := xv22) (x := xv26) C hM rfl rfl rfl (inI (by omega) (by show _ < (40 : Int); omega)) dX12_does_54 (fun H locs hM => ?_)
        have hM : mH D H0 (rM h0 (uA R 49 xv22.toNatClampNeg xv26)) kc ns H locs := hM
        have hF : fr [16, 47, 49, 50, 52, 53, 54, 55] R (uA R 49 xv22.toNatClampNeg xv26) := hF.A (by decide)
        have hI : RI (uA R 49 xv22.toNatClampNeg xv26) := hI.st49 (by omega)
        refine lv_iconst (v := 0) hx hb dX12_does_55 (by decide) ?_
        refine lv_istore (lv' := [(5, .int 0), (4, .int xv4), (0, .ref h0), (1, .int i0), (2, .int i1), (3, .int i2)]) hx hb dX12_does_56 hl (by decide) rfl (fun ls hl => ?_)
        have zv28 : (rI (uA R 49 xv22.toNatClampNeg xv26) 55).toInt = (rI R 55).toInt := rfl
        have loop58 : ∀ (fu : Nat) (kz : Int32) (Ra : RS) (H : Heap) (locs : List Loc) (ls : Array Slot), (fr [16, 47, 49, 50, 52, 53, 54, 55] R Ra) → (RI Ra) → (0 ≤ kz.toInt ∧ kz.toInt ≤ 16) → ((rI Ra 55).toInt = (rI R 55).toInt) → (16 - kz.toInt).toNat < fu → lv_has ls 6 [(0, .ref h0), (1, .int i0), (2, .int i1), (3, .int i2), (4, .int xv4), (5, .int kz)] → mH D H0 (rM h0 Ra) kc ns H locs → W p l e ({ frames := 2, cells := 0, slots := 0, locals := 44 } : Room) s m args below meth c H locs 0 0 (MQ below (mQ D H0 gI (fun r S1 k1 n1 => kc = k1 ∧ ns = n1 ∧ ∃ R1, S1 = rM h0 R1 ∧ fr [16, 47, 49, 50, 52, 53, 54, 55] R R1 ∧ RI R1 ∧ (0 ≤ (rI R1 55).toInt ∧ (rI R1 55).toInt ≤ (rI R 55).toInt + 1) ∧ (r = 0 ∨ r = 1))) args s 0 0 (mF H0)) (F0 m 58 ls []) := by
          intro fu
          induction fu with
          | zero => intro kz Ra H locs ls h58_0 h58_1 h58_2 h58_3 hfu; exact absurd hfu (by omega)
          | succ fu ih58 =>
            intro kz Ra H locs ls h58_0 h58_1 h58_2 h58_3 hfu hl hM
            have hF := h58_0
            have hI := h58_1
            refine lv_iload hx hb dX12_does_58 (lv_at hl 5 rfl) ?_
            refine lv_aload_n hx hb dX12_does_60 rfl (lv_at hl 0 rfl) ?_
            refine rr_getA (k := 15) (j := 7) C hM f_X12_36 rfl rfl dX12_does_61 ?_
            refine lv_iload hx hb dX12_does_64 (lv_at hl 4 rfl) ?_
            refine rr_ldI (j := 7) (k := 15) (n := 1860) (v := xv26) C hM rfl rfl rfl (inI (by omega) (by show _ < (1860 : Int); omega)) ((congrFun (hF.gA 15 (by decide)) xv4.toNatClampNeg).trans exv26.symm) dX12_does_66 ?_
            refine lv_icmp_ge (tgt := 104) hx hb dX12_does_67 (by decide) (fun cv29 => ?_) (fun cv29 => ?_)
            · have tcv29 := leT cv29
              refine lv_aload_n hx hb dX12_does_104 rfl (lv_at hl 0 rfl) ?_
              refine lv_dup hx hb dX12_does_105 rfl ?_
              refine rr_getI (k := 55) (v := rI Ra 55) C hM f_X12_316 rfl rfl dX12_does_106 ?_
              refine lv_topi (fun xv30 exv30 => ?_)
              have mxv30 : xv30.toInt = (rI Ra 55).toInt := by rw [exv30]
              refine lv_iconst (v := 1) hx hb dX12_does_109 (by decide) ?_
              refine lv_iadd hx hb dX12_does_110 ?_
              refine lv_topi (fun xv31 exv31 => ?_)
              try (have txv31 := addI (a := xv30) (b := 1) (by omega) (by omega); rw [← exv31] at txv31)
              refine rr_putI (k := 55) (v := xv31) C hM f_X12_316 rfl (fun r h => by cases h; rfl) rfl dX12_does_111 (fun H locs hM => ?_)
              have hM : mH D H0 (rM h0 (uI Ra 55 xv31)) kc ns H locs := hM
              have hF : fr [16, 47, 49, 50, 52, 53, 54, 55] R (uI Ra 55 xv31) := hF.I (by decide)
              have hI : RI (uI Ra 55 xv31) := hI.fr (L := [55]) (fr.rf.I (by decide)) (by decide)
              refine lv_iconst (v := 1) hx hb dX12_does_114 (by decide) ?_
              have zv32 : (rI (uI Ra 55 xv31) 55).toInt = xv31.toInt := rfl
              exact r_retZ C hr hlk rfl hM (⟨rfl, rfl, _, rfl, hF, hI, by omega, by decide⟩) dX12_does_115
            · have tcv29 := leF cv29
              refine lv_aload_n hx hb dX12_does_70 rfl (lv_at hl 0 rfl) ?_
              refine rr_getA (k := 50) (j := 29) C hM f_X12_107 rfl rfl dX12_does_71 ?_
              refine lv_bipush (v := 16) hx hb dX12_does_74 (by decide) ?_
              refine lv_aload_n hx hb dX12_does_76 rfl (lv_at hl 0 rfl) ?_
              refine rr_getI (k := 55) (v := rI Ra 55) C hM f_X12_316 rfl rfl dX12_does_77 ?_
              refine lv_topi (fun xv33 exv33 => ?_)
              have mxv33 : xv33.toInt = (rI Ra 55).toInt := by rw [exv33]
              refine lv_imul hx hb dX12_does_80 ?_
              refine lv_topi (fun xv34 exv34 => ?_)
              try (have txv34 := mulD (a := xv33) (k := 16) (n := 16) (by decide) (by omega) (by omega); rw [← exv34] at txv34)
              refine lv_iload hx hb dX12_does_81 (lv_at hl 5 rfl) ?_
              refine lv_iadd hx hb dX12_does_83 ?_
              refine lv_topi (fun xv35 exv35 => ?_)
              try (have txv35 := addI (a := xv34) (b := kz) (by omega) (by omega); rw [← exv35] at txv35)
              refine lv_aload_n hx hb dX12_does_84 rfl (lv_at hl 0 rfl) ?_
              refine rr_getA (k := 20) (j := 12) C hM f_X12_53 rfl rfl dX12_does_85 ?_
              refine lv_bipush (v := 16) hx hb dX12_does_88 (by decide) ?_
              refine lv_iload hx hb dX12_does_90 (lv_at hl 4 rfl) ?_
              refine lv_imul hx hb dX12_does_92 ?_
              refine lv_topi (fun xv36 exv36 => ?_)
              try (have txv36 := mulD (a := xv4) (k := 16) (n := 16) (by decide) (by omega) (by omega); rw [← exv36] at txv36)
              refine lv_iload hx hb dX12_does_93 (lv_at hl 5 rfl) ?_
              refine lv_iadd hx hb dX12_does_95 ?_
              refine lv_topi (fun xv37 exv37 => ?_)
              try (have txv37 := addI (a := xv36) (b := kz) (by omega) (by omega); rw [← exv37] at txv37)
              refine rr_ldB (j := 12) (k := 20) (n := 29760) (v := rA R 20 xv37.toNatClampNeg) C hM rfl rfl rfl (inI (by omega) (by show _ < (29760 : Int); omega)) (congrFun (hF.gA 20 (by decide)) xv37.toNatClampNeg) dX12_does_96 ?_
              refine lv_topi (fun xv38 exv38 => ?_)
              refine rr_stB (j := 29) (k := 50) (n := 640) (i := xv35) (x := xv38) C hM rfl rfl rfl (inI (by omega) (by show _ < (640 : Int); omega)) dX12_does_97 (fun H locs hM => ?_)
              have hM : mH D H0 (rM h0 (uA Ra 50 xv35.toNatClampNeg (vp_nar .byte xv38))) kc ns H locs := hM
              have hF : fr [16, 47, 49, 50, 52, 53, 54, 55] R (uA Ra 50 xv35.toNatClampNeg (vp_nar .byte xv38)) := hF.A (by decide)
              have hI : RI (uA Ra 50 xv35.toNatClampNeg (vp_nar .byte xv38)) := hI.fr (L := [50]) (fr.rf.A (by decide)) (by decide)
              obtain ⟨xv39, exv39⟩ : ∃ y : Int32, y = kz + 1 := ⟨_, rfl⟩
              try (have txv39 := addI (a := kz) (b := 1) (by omega) (by omega); rw [← exv39] at txv39)
              refine lv_iinc (v := xv39) (lv' := [(5, .int xv39), (0, .ref h0), (1, .int i0), (2, .int i1), (3, .int i2), (4, .int xv4)]) hx hb dX12_does_98 hl (k := 5) rfl (by rw [exv39]; rfl) (by decide) rfl (fun ls hl => ?_)
              refine lv_goto (tgt := 58) hx hb dX12_does_101 (by decide) ?_
              have zv40 : (rI (uA Ra 50 xv35.toNatClampNeg (vp_nar .byte xv38)) 55).toInt = (rI Ra 55).toInt := rfl
              exact ih58 xv39 (uA Ra 50 xv35.toNatClampNeg (vp_nar .byte xv38)) _ _ _ (hF) (hI) (by omega) (by omega) (by omega) (lv_sub hl [1, 2, 3, 4, 5, 0] rfl) hM
        have zv41 : (rI (uA R 49 xv22.toNatClampNeg xv26) 55).toInt = (rI R 55).toInt := rfl
        exact loop58 (((16 - (0 : Int32).toInt).toNat) + 1) 0 (uA R 49 xv22.toNatClampNeg xv26) _ _ _ (hF) (hI) (by omega) (by omega) (by omega) (lv_sub hl [2, 3, 4, 5, 1, 0] rfl) hM
      · have tcv27 := leF cv27
        refine lv_iconst (v := 0) hx hb dX12_does_43 (by decide) ?_
        refine lv_goto (tgt := 54) hx hb dX12_does_44 (by decide) ?_
        refine rr_stI (j := 28) (k := 49) (n := 40) (i := xv22) (x := (0 : Int32)) C hM rfl rfl rfl (inI (by omega) (by show _ < (40 : Int); omega)) dX12_does_54 (fun H locs hM => ?_)
        have hM : mH D H0 (rM h0 (uA R 49 xv22.toNatClampNeg (0 : Int32))) kc ns H locs := hM
        have hF : fr [16, 47, 49, 50, 52, 53, 54, 55] R (uA R 49 xv22.toNatClampNeg (0 : Int32)) := hF.A (by decide)
        have hI : RI (uA R 49 xv22.toNatClampNeg (0 : Int32)) := hI.st49 (by omega)
        refine lv_iconst (v := 0) hx hb dX12_does_55 (by decide) ?_
        refine lv_istore (lv' := [(5, .int 0), (4, .int xv4), (0, .ref h0), (1, .int i0), (2, .int i1), (3, .int i2)]) hx hb dX12_does_56 hl (by decide) rfl (fun ls hl => ?_)
        have zv42 : (rI (uA R 49 xv22.toNatClampNeg (0 : Int32)) 55).toInt = (rI R 55).toInt := rfl
        have loop58 : ∀ (fu : Nat) (kz : Int32) (Ra : RS) (H : Heap) (locs : List Loc) (ls : Array Slot), (fr [16, 47, 49, 50, 52, 53, 54, 55] R Ra) → (RI Ra) → (0 ≤ kz.toInt ∧ kz.toInt ≤ 16) → ((rI Ra 55).toInt = (rI R 55).toInt) → (16 - kz.toInt).toNat < fu → lv_has ls 6 [(0, .ref h0), (1, .int i0), (2, .int i1), (3, .int i2), (4, .int xv4), (5, .int kz)] → mH D H0 (rM h0 Ra) kc ns H locs → W p l e ({ frames := 2, cells := 0, slots := 0, locals := 44 } : Room) s m args below meth c H locs 0 0 (MQ below (mQ D H0 gI (fun r S1 k1 n1 => kc = k1 ∧ ns = n1 ∧ ∃ R1, S1 = rM h0 R1 ∧ fr [16, 47, 49, 50, 52, 53, 54, 55] R R1 ∧ RI R1 ∧ (0 ≤ (rI R1 55).toInt ∧ (rI R1 55).toInt ≤ (rI R 55).toInt + 1) ∧ (r = 0 ∨ r = 1))) args s 0 0 (mF H0)) (F0 m 58 ls []) := by
          intro fu
          induction fu with
          | zero => intro kz Ra H locs ls h58_0 h58_1 h58_2 h58_3 hfu; exact absurd hfu (by omega)
          | succ fu ih58 =>
            intro kz Ra H locs ls h58_0 h58_1 h58_2 h58_3 hfu hl hM
            have hF := h58_0
            have hI := h58_1
            refine lv_iload hx hb dX12_does_58 (lv_at hl 5 rfl) ?_
            refine lv_aload_n hx hb dX12_does_60 rfl (lv_at hl 0 rfl) ?_
            refine rr_getA (k := 15) (j := 7) C hM f_X12_36 rfl rfl dX12_does_61 ?_
            refine lv_iload hx hb dX12_does_64 (lv_at hl 4 rfl) ?_
            refine rr_ldI (j := 7) (k := 15) (n := 1860) (v := xv26) C hM rfl rfl rfl (inI (by omega) (by show _ < (1860 : Int); omega)) ((congrFun (hF.gA 15 (by decide)) xv4.toNatClampNeg).trans exv26.symm) dX12_does_66 ?_
            refine lv_icmp_ge (tgt := 104) hx hb dX12_does_67 (by decide) (fun cv43 => ?_) (fun cv43 => ?_)
            · have tcv43 := leT cv43
              refine lv_aload_n hx hb dX12_does_104 rfl (lv_at hl 0 rfl) ?_
              refine lv_dup hx hb dX12_does_105 rfl ?_
              refine rr_getI (k := 55) (v := rI Ra 55) C hM f_X12_316 rfl rfl dX12_does_106 ?_
              refine lv_topi (fun xv44 exv44 => ?_)
              have mxv44 : xv44.toInt = (rI Ra 55).toInt := by rw [exv44]
              refine lv_iconst (v := 1) hx hb dX12_does_109 (by decide) ?_
              refine lv_iadd hx hb dX12_does_110 ?_
              refine lv_topi (fun xv45 exv45 => ?_)
              try (have txv45 := addI (a := xv44) (b := 1) (by omega) (by omega); rw [← exv45] at txv45)
              refine rr_putI (k := 55) (v := xv45) C hM f_X12_316 rfl (fun r h => by cases h; rfl) rfl dX12_does_111 (fun H locs hM => ?_)
              have hM : mH D H0 (rM h0 (uI Ra 55 xv45)) kc ns H locs := hM
              have hF : fr [16, 47, 49, 50, 52, 53, 54, 55] R (uI Ra 55 xv45) := hF.I (by decide)
              have hI : RI (uI Ra 55 xv45) := hI.fr (L := [55]) (fr.rf.I (by decide)) (by decide)
              refine lv_iconst (v := 1) hx hb dX12_does_114 (by decide) ?_
              have zv46 : (rI (uI Ra 55 xv45) 55).toInt = xv45.toInt := rfl
              exact r_retZ C hr hlk rfl hM (⟨rfl, rfl, _, rfl, hF, hI, by omega, by decide⟩) dX12_does_115
            · have tcv43 := leF cv43
              refine lv_aload_n hx hb dX12_does_70 rfl (lv_at hl 0 rfl) ?_
              refine rr_getA (k := 50) (j := 29) C hM f_X12_107 rfl rfl dX12_does_71 ?_
              refine lv_bipush (v := 16) hx hb dX12_does_74 (by decide) ?_
              refine lv_aload_n hx hb dX12_does_76 rfl (lv_at hl 0 rfl) ?_
              refine rr_getI (k := 55) (v := rI Ra 55) C hM f_X12_316 rfl rfl dX12_does_77 ?_
              refine lv_topi (fun xv47 exv47 => ?_)
              have mxv47 : xv47.toInt = (rI Ra 55).toInt := by rw [exv47]
              refine lv_imul hx hb dX12_does_80 ?_
              refine lv_topi (fun xv48 exv48 => ?_)
              try (have txv48 := mulD (a := xv47) (k := 16) (n := 16) (by decide) (by omega) (by omega); rw [← exv48] at txv48)
              refine lv_iload hx hb dX12_does_81 (lv_at hl 5 rfl) ?_
              refine lv_iadd hx hb dX12_does_83 ?_
              refine lv_topi (fun xv49 exv49 => ?_)
              try (have txv49 := addI (a := xv48) (b := kz) (by omega) (by omega); rw [← exv49] at txv49)
              refine lv_aload_n hx hb dX12_does_84 rfl (lv_at hl 0 rfl) ?_
              refine rr_getA (k := 20) (j := 12) C hM f_X12_53 rfl rfl dX12_does_85 ?_
              refine lv_bipush (v := 16) hx hb dX12_does_88 (by decide) ?_
              refine lv_iload hx hb dX12_does_90 (lv_at hl 4 rfl) ?_
              refine lv_imul hx hb dX12_does_92 ?_
              refine lv_topi (fun xv50 exv50 => ?_)
              try (have txv50 := mulD (a := xv4) (k := 16) (n := 16) (by decide) (by omega) (by omega); rw [← exv50] at txv50)
              refine lv_iload hx hb dX12_does_93 (lv_at hl 5 rfl) ?_
              refine lv_iadd hx hb dX12_does_95 ?_
              refine lv_topi (fun xv51 exv51 => ?_)
              try (have txv51 := addI (a := xv50) (b := kz) (by omega) (by omega); rw [← exv51] at txv51)
              refine rr_ldB (j := 12) (k := 20) (n := 29760) (v := rA R 20 xv51.toNatClampNeg) C hM rfl rfl rfl (inI (by omega) (by show _ < (29760 : Int); omega)) (congrFun (hF.gA 20 (by decide)) xv51.toNatClampNeg) dX12_does_96 ?_
              refine lv_topi (fun xv52 exv52 => ?_)
              refine rr_stB (j := 29) (k := 50) (n := 640) (i := xv49) (x := xv52) C hM rfl rfl rfl (inI (by omega) (by show _ < (640 : Int); omega)) dX12_does_97 (fun H locs hM => ?_)
              have hM : mH D H0 (rM h0 (uA Ra 50 xv49.toNatClampNeg (vp_nar .byte xv52))) kc ns H locs := hM
              have hF : fr [16, 47, 49, 50, 52, 53, 54, 55] R (uA Ra 50 xv49.toNatClampNeg (vp_nar .byte xv52)) := hF.A (by decide)
              have hI : RI (uA Ra 50 xv49.toNatClampNeg (vp_nar .byte xv52)) := hI.fr (L := [50]) (fr.rf.A (by decide)) (by decide)
              obtain ⟨xv53, exv53⟩ : ∃ y : Int32, y = kz + 1 := ⟨_, rfl⟩
              try (have txv53 := addI (a := kz) (b := 1) (by omega) (by omega); rw [← exv53] at txv53)
              refine lv_iinc (v := xv53) (lv' := [(5, .int xv53), (0, .ref h0), (1, .int i0), (2, .int i1), (3, .int i2), (4, .int xv4)]) hx hb dX12_does_98 hl (k := 5) rfl (by rw [exv53]; rfl) (by decide) rfl (fun ls hl => ?_)
              refine lv_goto (tgt := 58) hx hb dX12_does_101 (by decide) ?_
              have zv54 : (rI (uA Ra 50 xv49.toNatClampNeg (vp_nar .byte xv52)) 55).toInt = (rI Ra 55).toInt := rfl
              exact ih58 xv53 (uA Ra 50 xv49.toNatClampNeg (vp_nar .byte xv52)) _ _ _ (hF) (hI) (by omega) (by omega) (by omega) (lv_sub hl [1, 2, 3, 4, 5, 0] rfl) hM
        have zv55 : (rI (uA R 49 xv22.toNatClampNeg (0 : Int32)) 55).toInt = (rI R 55).toInt := rfl
        exact loop58 (((16 - (0 : Int32).toInt).toNat) + 1) 0 (uA R 49 xv22.toNatClampNeg (0 : Int32)) _ _ _ (hF) (hI) (by omega) (by omega) (by omega) (lv_sub hl [2, 3, 4, 5, 1, 0] rfl) hM
set_option maxHeartbeats 4000000 in
set_option maxRecDepth 100000 in
theorem c_X12_goes (l : Launch) (D : gD) (H0 : gB) (h0 : Nat) (R : RS) (kc ns : Nat) (i0 i1 : Int32) (hI : RI R) (r0 : 0 ≤ i0.toInt) (r1 : i0.toInt < (rI R 51).toInt) (g01 : 0 ≤ i1.toInt) (g11 : i1.toInt < 4) (d0 : 0 ≤ (rI R 55).toInt) (d1 : (rI R 55).toInt ≤ 900000)  : Met l yX12_goes (wsU yX12_goes cX12_goes 5 (some .boolean)) ({ frames := 5, cells := 0, slots := 0, locals := 126 } : Room) (mP D H0 (rM h0 R) kc ns [.ref h0, .int i0, .int i1]) (mQ D H0 gI (fun r S1 k1 n1 => kc = k1 ∧ ns = n1 ∧ ∃ R1, S1 = rM h0 R1 ∧ fr [16, 23, 24, 26, 27, 28, 29, 47, 49, 50, 52, 53, 54, 55] R R1 ∧ RI R1 ∧ (0 ≤ (rI R1 55).toInt ∧ (rI R1 55).toInt ≤ (rI R 55).toInt + 60) ∧ (r = 0 ∨ r = 1))) 0 0 (mF H0) := by
  refine r_met (own := RX12) (by decide +kernel) rfl (Nat.le_of_ble_eq_true rfl) ?_
  intro p e s m args below meth c C hr hlk hnm H ls hl hM
  obtain ⟨hx, hb, hml, hown, hts, -, -⟩ := id C
  have hl : lv_has ls 5 [(0, .ref h0), (1, .int i0), (2, .int i1)] := hl
  have hF : fr [16, 23, 24, 26, 27, 28, 29, 47, 49, 50, 52, 53, 54, 55] R R := fr.rf
  have hI0 := hI
  have t_m1 : (-1 : Int32).toInt = -1 := by decide
  have t_0 : (0 : Int32).toInt = 0 := by decide
  have t_1 : (1 : Int32).toInt = 1 := by decide
  have t_2 : (2 : Int32).toInt = 2 := by decide
  have t_10 : (10 : Int32).toInt = 10 := by decide
  have fm1 := RI.many hI i1.toNatClampNeg
  have fs := RI.acts hI
  refine lv_aload_n hx hb dX12_goes_0 rfl (lv_at hl 0 rfl) ?_
  refine rr_getA (k := 46) (j := 25) C hM f_X12_95 rfl rfl dX12_goes_1 ?_
  refine lv_iload_n hx hb dX12_goes_4 rfl (lv_at hl 1 rfl) ?_
  refine rr_ldZ (j := 25) (k := 46) (n := 20) (v := rA R 46 i0.toNatClampNeg) C hM rfl rfl rfl (inI (by omega) (by show _ < (20 : Int); omega)) (congrFun (hF.gA 46 (by decide)) i0.toNatClampNeg) dX12_goes_5 ?_
  refine lv_topi (fun xv1 exv1 => ?_)
  refine lv_if_eq (tgt := 52) hx hb dX12_goes_6 (by decide) (fun cv2 => ?_) (fun cv2 => ?_)
  · have tcv2 := eqT cv2
    have hz9 : rA R 46 i0.toNatClampNeg = 0 := exv1.symm.trans cv2
    refine lv_aload_n hx hb dX12_goes_52 rfl (lv_at hl 0 rfl) ?_
    refine lv_bipush (v := 10) hx hb dX12_goes_53 (by decide) ?_
    refine lv_iload_n hx hb dX12_goes_55 rfl (lv_at hl 1 rfl) ?_
    refine lv_iadd hx hb dX12_goes_56 ?_
    refine lv_topi (fun xv3 exv3 => ?_)
    try (have txv3 := addI (a := 10) (b := i0) (by omega) (by omega); rw [← exv3] at txv3)
    refine lv_aload_n hx hb dX12_goes_57 rfl (lv_at hl 0 rfl) ?_
    refine rr_getA (k := 48) (j := 27) C hM f_X12_101 rfl rfl dX12_goes_58 ?_
    refine lv_iload_n hx hb dX12_goes_61 rfl (lv_at hl 1 rfl) ?_
    refine rr_ldI (j := 27) (k := 48) (n := 20) (v := rA R 48 i0.toNatClampNeg) C hM rfl rfl rfl (inI (by omega) (by show _ < (20 : Int); omega)) (congrFun (hF.gA 48 (by decide)) i0.toNatClampNeg) dX12_goes_62 ?_
    refine lv_topi (fun xv4 exv4 => ?_)
    have fpxv4 : 0 ≤ xv4.toInt ∧ xv4.toInt < (rA R 10 xv3.toNatClampNeg).toInt := by rw [exv4]; exact RI.ap hI0 (by omega) (by omega) hz9 (by omega)
    refine lv_iload_n hx hb dX12_goes_63 rfl (lv_at hl 2 rfl) ?_
    refine r_V (As := [.int xv3, .int xv4, .int i1]) (rest := []) (ci := 12) C hM (c_X12_seek l D H0 h0 R kc ns xv3 xv4 i1 hI (by omega) (by omega) (by omega) (by rw [hF.gA 10 (by decide)]; omega) (by omega) (by omega)) i_X12_seek m_X12_238 rK0 rfl rfl rfl hl.1 rfl (Nat.le_of_ble_eq_true rfl) ⟨by decide, by decide⟩ ⟨by decide, by decide⟩ dX12_goes_64 (fun xv8 Sv5 kv6 nv7 H locs pv9 hM => ?_)
    obtain ⟨rfl, rfl, Rv10, rfl, hf9, hxv8⟩ := pv9
    have hF : fr [16, 23, 24, 26, 27, 28, 29, 47, 49, 50, 52, 53, 54, 55] R Rv10 := hF.trans hf9 (by decide)
    have hI : RI Rv10 := hI.fr hf9 (by decide)
    have zv11 : (rI Rv10 55).toInt = (rI R 55).toInt := by rw [hf9.gI 55 (by decide)]
    refine W.eq (g2 := F0 m 67 ls [.int xv8]) rfl ?_
    refine lv_istore_n (lv' := [(3, .int xv8), (0, .ref h0), (1, .int i0), (2, .int i1)]) hx hb dX12_goes_67 rfl hl (by decide) rfl (fun ls hl => ?_)
    refine lv_iload_n hx hb dX12_goes_68 rfl (lv_at hl 0 rfl) ?_
    refine lv_iconst (v := 1) hx hb dX12_goes_69 (by decide) ?_
    refine lv_icmp_ne (tgt := 84) hx hb dX12_goes_70 (by decide) (fun cv12 => ?_) (fun cv12 => ?_)
    · have tcv12 := eqF cv12
      refine lv_aload_n hx hb dX12_goes_84 rfl (lv_at hl 1 rfl) ?_
      refine lv_iload_n hx hb dX12_goes_85 rfl (lv_at hl 0 rfl) ?_
      refine lv_if_ne (tgt := 93) hx hb dX12_goes_86 (by decide) (fun cv13 => ?_) (fun cv13 => ?_)
      · have tcv13 := eqF cv13
        refine lv_iconst (v := 2) hx hb dX12_goes_93 (by decide) ?_
        refine rr_putI (k := 52) (v := (2 : Int32)) C hM f_X12_322 rfl (fun r h => by cases h; rfl) rfl dX12_goes_94 (fun H locs hM => ?_)
        have hM : mH D H0 (rM h0 (uI Rv10 52 (2 : Int32))) kc ns H locs := hM
        have hF : fr [16, 23, 24, 26, 27, 28, 29, 47, 49, 50, 52, 53, 54, 55] R (uI Rv10 52 (2 : Int32)) := hF.I (by decide)
        have hI : RI (uI Rv10 52 (2 : Int32)) := hI.fr (L := [52]) (fr.rf.I (by decide)) (by decide)
        refine lv_aload_n hx hb dX12_goes_97 rfl (lv_at hl 1 rfl) ?_
        refine lv_iload_n hx hb dX12_goes_98 rfl (lv_at hl 0 rfl) ?_
        refine lv_if_ne (tgt := 109) hx hb dX12_goes_99 (by decide) (fun cv14 => ?_) (fun cv14 => ?_)
        · have tcv14 := eqF cv14
          refine lv_iconst (v := -1) hx hb dX12_goes_109 (by decide) ?_
          refine rr_putI (k := 53) (v := (-1 : Int32)) C hM f_X12_325 rfl (fun r h => by cases h; rfl) rfl dX12_goes_110 (fun H locs hM => ?_)
          have hM : mH D H0 (rM h0 (uI (uI Rv10 52 (2 : Int32)) 53 (-1 : Int32))) kc ns H locs := hM
          have hF : fr [16, 23, 24, 26, 27, 28, 29, 47, 49, 50, 52, 53, 54, 55] R (uI (uI Rv10 52 (2 : Int32)) 53 (-1 : Int32)) := hF.I (by decide)
          have hI : RI (uI (uI Rv10 52 (2 : Int32)) 53 (-1 : Int32)) := hI.fr (L := [53]) (fr.rf.I (by decide)) (by decide)
          refine lv_iconst (v := 0) hx hb dX12_goes_113 (by decide) ?_
          have zv15 : (rI (uI (uI Rv10 52 (2 : Int32)) 53 (-1 : Int32)) 26).toInt = (rI Rv10 26).toInt := rfl
          have zv16 : (rI (uI (uI Rv10 52 (2 : Int32)) 53 (-1 : Int32)) 55).toInt = (rI Rv10 55).toInt := rfl
          exact r_retZ C hr hlk rfl hM (⟨rfl, rfl, _, rfl, hF, hI, by omega, by decide⟩) dX12_goes_114
        · have tcv14 := eqT cv14
          refine lv_aload_n hx hb dX12_goes_102 rfl (lv_at hl 1 rfl) ?_
          refine rr_getI (k := 26) (v := rI Rv10 26) C hM f_X12_223 rfl rfl dX12_goes_103 ?_
          refine lv_topi (fun xv17 exv17 => ?_)
          have mxv17 : xv17.toInt = (rI Rv10 26).toInt := by rw [exv17]
          refine lv_goto (tgt := 110) hx hb dX12_goes_106 (by decide) ?_
          refine rr_putI (k := 53) (v := xv17) C hM f_X12_325 rfl (fun r h => by cases h; rfl) rfl dX12_goes_110 (fun H locs hM => ?_)
          have hM : mH D H0 (rM h0 (uI (uI Rv10 52 (2 : Int32)) 53 xv17)) kc ns H locs := hM
          have hF : fr [16, 23, 24, 26, 27, 28, 29, 47, 49, 50, 52, 53, 54, 55] R (uI (uI Rv10 52 (2 : Int32)) 53 xv17) := hF.I (by decide)
          have hI : RI (uI (uI Rv10 52 (2 : Int32)) 53 xv17) := hI.fr (L := [53]) (fr.rf.I (by decide)) (by decide)
          refine lv_iconst (v := 0) hx hb dX12_goes_113 (by decide) ?_
          have zv18 : (rI (uI (uI Rv10 52 (2 : Int32)) 53 xv17) 26).toInt = (rI Rv10 26).toInt := rfl
          have zv19 : (rI (uI (uI Rv10 52 (2 : Int32)) 53 xv17) 55).toInt = (rI Rv10 55).toInt := rfl
          exact r_retZ C hr hlk rfl hM (⟨rfl, rfl, _, rfl, hF, hI, by omega, by decide⟩) dX12_goes_114
      · have tcv13 := eqT cv13
        refine lv_iconst (v := 1) hx hb dX12_goes_89 (by decide) ?_
        refine lv_goto (tgt := 94) hx hb dX12_goes_90 (by decide) ?_
        refine rr_putI (k := 52) (v := (1 : Int32)) C hM f_X12_322 rfl (fun r h => by cases h; rfl) rfl dX12_goes_94 (fun H locs hM => ?_)
        have hM : mH D H0 (rM h0 (uI Rv10 52 (1 : Int32))) kc ns H locs := hM
        have hF : fr [16, 23, 24, 26, 27, 28, 29, 47, 49, 50, 52, 53, 54, 55] R (uI Rv10 52 (1 : Int32)) := hF.I (by decide)
        have hI : RI (uI Rv10 52 (1 : Int32)) := hI.fr (L := [52]) (fr.rf.I (by decide)) (by decide)
        refine lv_aload_n hx hb dX12_goes_97 rfl (lv_at hl 1 rfl) ?_
        refine lv_iload_n hx hb dX12_goes_98 rfl (lv_at hl 0 rfl) ?_
        refine lv_if_ne (tgt := 109) hx hb dX12_goes_99 (by decide) (fun cv20 => ?_) (fun cv20 => ?_)
        · have tcv20 := eqF cv20
          refine lv_iconst (v := -1) hx hb dX12_goes_109 (by decide) ?_
          refine rr_putI (k := 53) (v := (-1 : Int32)) C hM f_X12_325 rfl (fun r h => by cases h; rfl) rfl dX12_goes_110 (fun H locs hM => ?_)
          have hM : mH D H0 (rM h0 (uI (uI Rv10 52 (1 : Int32)) 53 (-1 : Int32))) kc ns H locs := hM
          have hF : fr [16, 23, 24, 26, 27, 28, 29, 47, 49, 50, 52, 53, 54, 55] R (uI (uI Rv10 52 (1 : Int32)) 53 (-1 : Int32)) := hF.I (by decide)
          have hI : RI (uI (uI Rv10 52 (1 : Int32)) 53 (-1 : Int32)) := hI.fr (L := [53]) (fr.rf.I (by decide)) (by decide)
          refine lv_iconst (v := 0) hx hb dX12_goes_113 (by decide) ?_
          have zv21 : (rI (uI (uI Rv10 52 (1 : Int32)) 53 (-1 : Int32)) 26).toInt = (rI Rv10 26).toInt := rfl
          have zv22 : (rI (uI (uI Rv10 52 (1 : Int32)) 53 (-1 : Int32)) 55).toInt = (rI Rv10 55).toInt := rfl
          exact r_retZ C hr hlk rfl hM (⟨rfl, rfl, _, rfl, hF, hI, by omega, by decide⟩) dX12_goes_114
        · have tcv20 := eqT cv20
          refine lv_aload_n hx hb dX12_goes_102 rfl (lv_at hl 1 rfl) ?_
          refine rr_getI (k := 26) (v := rI Rv10 26) C hM f_X12_223 rfl rfl dX12_goes_103 ?_
          refine lv_topi (fun xv23 exv23 => ?_)
          have mxv23 : xv23.toInt = (rI Rv10 26).toInt := by rw [exv23]
          refine lv_goto (tgt := 110) hx hb dX12_goes_106 (by decide) ?_
          refine rr_putI (k := 53) (v := xv23) C hM f_X12_325 rfl (fun r h => by cases h; rfl) rfl dX12_goes_110 (fun H locs hM => ?_)
          have hM : mH D H0 (rM h0 (uI (uI Rv10 52 (1 : Int32)) 53 xv23)) kc ns H locs := hM
          have hF : fr [16, 23, 24, 26, 27, 28, 29, 47, 49, 50, 52, 53, 54, 55] R (uI (uI Rv10 52 (1 : Int32)) 53 xv23) := hF.I (by decide)
          have hI : RI (uI (uI Rv10 52 (1 : Int32)) 53 xv23) := hI.fr (L := [53]) (fr.rf.I (by decide)) (by decide)
          refine lv_iconst (v := 0) hx hb dX12_goes_113 (by decide) ?_
          have zv24 : (rI (uI (uI Rv10 52 (1 : Int32)) 53 xv23) 26).toInt = (rI Rv10 26).toInt := rfl
          have zv25 : (rI (uI (uI Rv10 52 (1 : Int32)) 53 xv23) 55).toInt = (rI Rv10 55).toInt := rfl
          exact r_retZ C hr hlk rfl hM (⟨rfl, rfl, _, rfl, hF, hI, by omega, by decide⟩) dX12_goes_114
    · have tcv12 := eqT cv12
      refine lv_aload_n hx hb dX12_goes_73 rfl (lv_at hl 1 rfl) ?_
      refine lv_iload_n hx hb dX12_goes_74 rfl (lv_at hl 2 rfl) ?_
      refine lv_iload_n hx hb dX12_goes_75 rfl (lv_at hl 3 rfl) ?_
      refine lv_aload_n hx hb dX12_goes_76 rfl (lv_at hl 1 rfl) ?_
      refine rr_getI (k := 26) (v := rI Rv10 26) C hM f_X12_223 rfl rfl dX12_goes_77 ?_
      refine lv_topi (fun xv26 exv26 => ?_)
      have mxv26 : xv26.toInt = (rI Rv10 26).toInt := by rw [exv26]
      refine r_V (As := [.int i0, .int i1, .int xv26]) (rest := []) (ci := 12) C hM (c_X12_does l D H0 h0 Rv10 kc ns i0 i1 xv26 hI (by omega) (by omega) (by omega) (by omega) (by omega) (by rw [hF.gA 10 (by decide)]; omega) (by omega) (by omega)) i_X12_does m_X12_331 rK0 rfl rfl rfl hl.1 rfl (Nat.le_of_ble_eq_true rfl) ⟨by decide, by decide⟩ ⟨by decide, by decide⟩ dX12_goes_80 (fun xv30 Sv27 kv28 nv29 H locs pv31 hM => ?_)
      obtain ⟨rfl, rfl, Rv32, rfl, hf9, ⟨hI, hdxv30, hxv30⟩⟩ := pv31
      have hF : fr [16, 23, 24, 26, 27, 28, 29, 47, 49, 50, 52, 53, 54, 55] R Rv32 := hF.trans hf9 (by decide)
      have zv33 : (rI Rv32 26).toInt = (rI Rv10 26).toInt := by rw [hf9.gI 26 (by decide)]
      have vv34 : rI Rv32 26 = xv26 := (hf9.gI 26 (by decide)).trans (exv26.symm)
      refine W.eq (g2 := F0 m 83 ls [.int xv30]) rfl ?_
      exact r_retZ C hr hlk (nzb hxv30) hM (⟨rfl, rfl, _, rfl, hF, hI, by omega, hxv30⟩) dX12_goes_83
  · have tcv2 := eqF cv2
    refine lv_aload_n hx hb dX12_goes_9 rfl (lv_at hl 0 rfl) ?_
    refine lv_iload_n hx hb dX12_goes_10 rfl (lv_at hl 1 rfl) ?_
    refine lv_iload_n hx hb dX12_goes_11 rfl (lv_at hl 2 rfl) ?_
    refine r_V (As := [.int i0, .int i1]) (rest := []) (ci := 12) C hM (c_X12_rowsOf l D H0 h0 R kc ns i0 i1 hI (by omega) (by omega) (by omega) (by omega)) i_X12_rowsOf m_X12_307 rK0 rfl rfl rfl hl.1 rfl (Nat.le_of_ble_eq_true rfl) ⟨by decide, by decide⟩ ⟨by decide, by decide⟩ dX12_goes_12 (fun xv38 Sv35 kv36 nv37 H locs pv39 hM => ?_)
    obtain ⟨rfl, rfl, rfl, ⟨hxv38, hrxv38⟩⟩ := pv39
    refine W.eq (g2 := F0 m 15 ls [.int xv38]) rfl ?_
    refine lv_istore_n (lv' := [(3, .int xv38), (0, .ref h0), (1, .int i0), (2, .int i1)]) hx hb dX12_goes_15 rfl hl (by decide) rfl (fun ls hl => ?_)
    refine lv_iconst (v := 0) hx hb dX12_goes_16 (by decide) ?_
    refine lv_istore (lv' := [(4, .int 0), (3, .int xv38), (0, .ref h0), (1, .int i0), (2, .int i1)]) hx hb dX12_goes_17 hl (by decide) rfl (fun ls hl => ?_)
    have loop19 : ∀ (fu : Nat) (kz : Int32) (Ra : RS) (H : Heap) (locs : List Loc) (ls : Array Slot), (fr [16, 23, 24, 26, 27, 28, 29, 47, 49, 50, 52, 53, 54, 55] R Ra) → (RI Ra) → (0 ≤ kz.toInt ∧ kz.toInt ≤ 60) → (0 ≤ (rI Ra 55).toInt ∧ (rI Ra 55).toInt ≤ (rI R 55).toInt + kz.toInt) → (60 - kz.toInt).toNat < fu → lv_has ls 5 [(0, .ref h0), (1, .int i0), (2, .int i1), (3, .int xv38), (4, .int kz)] → mH D H0 (rM h0 Ra) kc ns H locs → W p l e ({ frames := 5, cells := 0, slots := 0, locals := 126 } : Room) s m args below meth c H locs 0 0 (MQ below (mQ D H0 gI (fun r S1 k1 n1 => kc = k1 ∧ ns = n1 ∧ ∃ R1, S1 = rM h0 R1 ∧ fr [16, 23, 24, 26, 27, 28, 29, 47, 49, 50, 52, 53, 54, 55] R R1 ∧ RI R1 ∧ (0 ≤ (rI R1 55).toInt ∧ (rI R1 55).toInt ≤ (rI R 55).toInt + 60) ∧ (r = 0 ∨ r = 1))) args s 0 0 (mF H0)) (F0 m 19 ls []) := by
      intro fu
      induction fu with
      | zero => intro kz Ra H locs ls h19_0 h19_1 h19_2 h19_3 hfu; exact absurd hfu (by omega)
      | succ fu ih19 =>
        intro kz Ra H locs ls h19_0 h19_1 h19_2 h19_3 hfu hl hM
        have hF := h19_0
        have hI := h19_1
        refine lv_iload hx hb dX12_goes_19 (lv_at hl 4 rfl) ?_
        refine lv_iload_n hx hb dX12_goes_21 rfl (lv_at hl 3 rfl) ?_
        refine lv_icmp_ge (tgt := 50) hx hb dX12_goes_22 (by decide) (fun cv40 => ?_) (fun cv40 => ?_)
        · have tcv40 := leT cv40
          refine lv_iconst (v := 1) hx hb dX12_goes_50 (by decide) ?_
          exact r_retZ C hr hlk rfl hM (⟨rfl, rfl, _, rfl, hF, hI, by omega, by decide⟩) dX12_goes_51
        · have tcv40 := leF cv40
          refine lv_aload_n hx hb dX12_goes_25 rfl (lv_at hl 0 rfl) ?_
          refine lv_iload_n hx hb dX12_goes_26 rfl (lv_at hl 1 rfl) ?_
          refine lv_iload_n hx hb dX12_goes_27 rfl (lv_at hl 2 rfl) ?_
          refine lv_aload_n hx hb dX12_goes_28 rfl (lv_at hl 0 rfl) ?_
          refine lv_iload_n hx hb dX12_goes_29 rfl (lv_at hl 1 rfl) ?_
          refine lv_iload_n hx hb dX12_goes_30 rfl (lv_at hl 2 rfl) ?_
          refine lv_iload hx hb dX12_goes_31 (lv_at hl 4 rfl) ?_
          refine r_V (As := [.int i0, .int i1, .int kz]) (rest := [.int i1, .int i0, .ref h0]) (ci := 12) C hM (c_X12_rowOf l D H0 h0 Ra kc ns i0 i1 kz hI (by omega) (by omega) (by omega) (by omega)) i_X12_rowOf m_X12_301 rK0 rfl rfl rfl hl.1 rfl (Nat.le_of_ble_eq_true rfl) ⟨by decide, by decide⟩ ⟨by decide, by decide⟩ dX12_goes_33 (fun xv44 Sv41 kv42 nv43 H locs pv45 hM => ?_)
          obtain ⟨rfl, rfl, rfl, ⟨hwxv44, hxv44⟩⟩ := pv45
          refine W.eq (g2 := F0 m 36 ls [.int xv44, .int i1, .int i0, .ref h0]) rfl ?_
          have hg9 := hrxv38 kz (by omega) (by omega)
          rw [← rwV.fr hF (by decide), ← hwxv44] at hg9
          have zr9 : (rA Ra 10 i1.toNatClampNeg).toInt = (rA R 10 i1.toNatClampNeg).toInt := by rw [hF.gA 10 (by decide)]
          refine r_V (As := [.int i0, .int i1, .int xv44]) (rest := []) (ci := 12) C hM (c_X12_does l D H0 h0 Ra kc ns i0 i1 xv44 hI (by omega) (by omega) (by omega) (by omega) (by omega) (by rw [hF.gA 10 (by decide)]; omega) (by omega) (by omega)) i_X12_does m_X12_331 rK0 rfl rfl rfl hl.1 rfl (Nat.le_of_ble_eq_true rfl) ⟨by decide, by decide⟩ ⟨by decide, by decide⟩ dX12_goes_36 (fun xv49 Sv46 kv47 nv48 H locs pv50 hM => ?_)
          obtain ⟨rfl, rfl, Rv51, rfl, hf9, ⟨hI, hdxv49, hxv49⟩⟩ := pv50
          have hF : fr [16, 23, 24, 26, 27, 28, 29, 47, 49, 50, 52, 53, 54, 55] R Rv51 := hF.trans hf9 (by decide)
          have zv52 : (rI Rv51 26).toInt = (rI Ra 26).toInt := by rw [hf9.gI 26 (by decide)]
          refine W.eq (g2 := F0 m 39 ls [.int xv49]) rfl ?_
          refine lv_if_ne (tgt := 44) hx hb dX12_goes_39 (by decide) (fun cv53 => ?_) (fun cv53 => ?_)
          · have tcv53 := eqF cv53
            obtain ⟨xv54, exv54⟩ : ∃ y : Int32, y = kz + 1 := ⟨_, rfl⟩
            try (have txv54 := addI (a := kz) (b := 1) (by omega) (by omega); rw [← exv54] at txv54)
            refine lv_iinc (v := xv54) (lv' := [(4, .int xv54), (0, .ref h0), (1, .int i0), (2, .int i1), (3, .int xv38)]) hx hb dX12_goes_44 hl (k := 4) rfl (by rw [exv54]; rfl) (by decide) rfl (fun ls hl => ?_)
            refine lv_goto (tgt := 19) hx hb dX12_goes_47 (by decide) ?_
            exact ih19 xv54 Rv51 _ _ _ (hF) (hI) (by omega) (by omega) (by omega) (lv_sub hl [1, 2, 3, 4, 0] rfl) hM
          · have tcv53 := eqT cv53
            refine lv_iconst (v := 0) hx hb dX12_goes_42 (by decide) ?_
            exact r_retZ C hr hlk rfl hM (⟨rfl, rfl, _, rfl, hF, hI, by omega, by decide⟩) dX12_goes_43
    exact loop19 (((60 - (0 : Int32).toInt).toNat) + 1) 0 R _ _ _ (hF) (hI) (by omega) (by omega) (by omega) (lv_sub hl [2, 3, 4, 1, 0] rfl) hM
set_option maxHeartbeats 4000000 in
set_option maxRecDepth 100000 in
theorem c_X12_run (l : Launch) (D : gD) (H0 : gB) (h0 : Nat) (R : RS) (kc ns : Nat) (i0 : Int32) (hI : RI R)  : Met l yX12_run (wsU yX12_run cX12_run 3 (some .int)) ({ frames := 6, cells := 0, slots := 0, locals := 150 } : Room) (mP D H0 (rM h0 R) kc ns [.ref h0, .int i0]) (mQ D H0 gI (fun r S1 k1 n1 => kc = k1 ∧ ns = n1 ∧ ∃ R1, S1 = rM h0 R1 ∧ fr [16, 23, 24, 26, 27, 28, 29, 47, 49, 50, 52, 53, 54, 55, 56] R R1 ∧ RI R1)) 0 0 (mF H0) := by
  refine r_met (own := RX12) (by decide +kernel) rfl (Nat.le_of_ble_eq_true rfl) ?_
  intro p e s m args below meth c C hr hlk hnm H ls hl hM
  obtain ⟨hx, hb, hml, hown, hts, -, -⟩ := id C
  have hl : lv_has ls 3 [(0, .ref h0), (1, .int i0)] := hl
  have hF : fr [16, 23, 24, 26, 27, 28, 29, 47, 49, 50, 52, 53, 54, 55, 56] R R := fr.rf
  have hI0 := hI
  have t_m1 : (-1 : Int32).toInt = -1 := by decide
  have t_0 : (0 : Int32).toInt = 0 := by decide
  have t_1 : (1 : Int32).toInt = 1 := by decide
  have t_60 : (60 : Int32).toInt = 60 := by decide
  have fs := RI.acts hI
  refine lv_aload_n hx hb dX12_run_0 rfl (lv_at hl 0 rfl) ?_
  refine lv_iload_n hx hb dX12_run_1 rfl (lv_at hl 1 rfl) ?_
  refine r_V (As := [.int i0]) (rest := []) (ci := 12) C hM (c_X12_hasPage l D H0 h0 R kc ns i0 hI) i_X12_hasPage m_X12_235 rK0 rfl rfl rfl hl.1 rfl (Nat.le_of_ble_eq_true rfl) ⟨by decide, by decide⟩ ⟨by decide, by decide⟩ dX12_run_2 (fun xv4 Sv1 kv2 nv3 H locs pv5 hM => ?_)
  obtain ⟨rfl, rfl, rfl, hxv4⟩ := pv5
  refine W.eq (g2 := F0 m 5 ls [.int xv4]) rfl ?_
  refine lv_if_ne (tgt := 10) hx hb dX12_run_5 (by decide) (fun cv6 => ?_) (fun cv6 => ?_)
  · have tcv6 := eqF cv6
    refine lv_aload_n hx hb dX12_run_10 rfl (lv_at hl 0 rfl) ?_
    refine lv_iconst (v := 1) hx hb dX12_run_11 (by decide) ?_
    refine rr_putZ (k := 56) (v := (1 : Int32)) C hM f_X12_334 rfl (fun r h => by cases h; rfl) (by decide) rfl dX12_run_12 (fun H locs hM => ?_)
    have hM : mH D H0 (rM h0 (uI R 56 (1 : Int32))) kc ns H locs := hM
    have hF : fr [16, 23, 24, 26, 27, 28, 29, 47, 49, 50, 52, 53, 54, 55, 56] R (uI R 56 (1 : Int32)) := hF.I (by decide)
    have hI : RI (uI R 56 (1 : Int32)) := hI.fr (L := [56]) (fr.rf.I (by decide)) (by decide)
    refine lv_aload_n hx hb dX12_run_15 rfl (lv_at hl 0 rfl) ?_
    refine lv_iconst (v := 0) hx hb dX12_run_16 (by decide) ?_
    refine rr_putI (k := 52) (v := (0 : Int32)) C hM f_X12_322 rfl (fun r h => by cases h; rfl) rfl dX12_run_17 (fun H locs hM => ?_)
    have hM : mH D H0 (rM h0 (uI (uI R 56 (1 : Int32)) 52 (0 : Int32))) kc ns H locs := hM
    have hF : fr [16, 23, 24, 26, 27, 28, 29, 47, 49, 50, 52, 53, 54, 55, 56] R (uI (uI R 56 (1 : Int32)) 52 (0 : Int32)) := hF.I (by decide)
    have hI : RI (uI (uI R 56 (1 : Int32)) 52 (0 : Int32)) := hI.fr (L := [52]) (fr.rf.I (by decide)) (by decide)
    refine lv_aload_n hx hb dX12_run_20 rfl (lv_at hl 0 rfl) ?_
    refine lv_iconst (v := -1) hx hb dX12_run_21 (by decide) ?_
    refine rr_putI (k := 53) (v := (-1 : Int32)) C hM f_X12_325 rfl (fun r h => by cases h; rfl) rfl dX12_run_22 (fun H locs hM => ?_)
    have hM : mH D H0 (rM h0 (uI (uI (uI R 56 (1 : Int32)) 52 (0 : Int32)) 53 (-1 : Int32))) kc ns H locs := hM
    have hF : fr [16, 23, 24, 26, 27, 28, 29, 47, 49, 50, 52, 53, 54, 55, 56] R (uI (uI (uI R 56 (1 : Int32)) 52 (0 : Int32)) 53 (-1 : Int32)) := hF.I (by decide)
    have hI : RI (uI (uI (uI R 56 (1 : Int32)) 52 (0 : Int32)) 53 (-1 : Int32)) := hI.fr (L := [53]) (fr.rf.I (by decide)) (by decide)
    refine lv_aload_n hx hb dX12_run_25 rfl (lv_at hl 0 rfl) ?_
    refine lv_iconst (v := 0) hx hb dX12_run_26 (by decide) ?_
    refine rr_putI (k := 54) (v := (0 : Int32)) C hM f_X12_328 rfl (fun r h => by cases h; rfl) rfl dX12_run_27 (fun H locs hM => ?_)
    have hM : mH D H0 (rM h0 (uI (uI (uI (uI R 56 (1 : Int32)) 52 (0 : Int32)) 53 (-1 : Int32)) 54 (0 : Int32))) kc ns H locs := hM
    have hF : fr [16, 23, 24, 26, 27, 28, 29, 47, 49, 50, 52, 53, 54, 55, 56] R (uI (uI (uI (uI R 56 (1 : Int32)) 52 (0 : Int32)) 53 (-1 : Int32)) 54 (0 : Int32)) := hF.I (by decide)
    have hI : RI (uI (uI (uI (uI R 56 (1 : Int32)) 52 (0 : Int32)) 53 (-1 : Int32)) 54 (0 : Int32)) := hI.fr (L := [54]) (fr.rf.I (by decide)) (by decide)
    refine lv_aload_n hx hb dX12_run_30 rfl (lv_at hl 0 rfl) ?_
    refine lv_iconst (v := 0) hx hb dX12_run_31 (by decide) ?_
    refine rr_putI (k := 55) (v := (0 : Int32)) C hM f_X12_316 rfl (fun r h => by cases h; rfl) rfl dX12_run_32 (fun H locs hM => ?_)
    have hM : mH D H0 (rM h0 (uI (uI (uI (uI (uI R 56 (1 : Int32)) 52 (0 : Int32)) 53 (-1 : Int32)) 54 (0 : Int32)) 55 (0 : Int32))) kc ns H locs := hM
    have hF : fr [16, 23, 24, 26, 27, 28, 29, 47, 49, 50, 52, 53, 54, 55, 56] R (uI (uI (uI (uI (uI R 56 (1 : Int32)) 52 (0 : Int32)) 53 (-1 : Int32)) 54 (0 : Int32)) 55 (0 : Int32)) := hF.I (by decide)
    have hI : RI (uI (uI (uI (uI (uI R 56 (1 : Int32)) 52 (0 : Int32)) 53 (-1 : Int32)) 54 (0 : Int32)) 55 (0 : Int32)) := hI.fr (L := [55]) (fr.rf.I (by decide)) (by decide)
    refine lv_iconst (v := 0) hx hb dX12_run_35 (by decide) ?_
    refine lv_istore_n (lv' := [(2, .int 0), (0, .ref h0), (1, .int i0)]) hx hb dX12_run_36 rfl hl (by decide) rfl (fun ls hl => ?_)
    have zv7 : (rI (uI (uI (uI (uI (uI R 56 (1 : Int32)) 52 (0 : Int32)) 53 (-1 : Int32)) 54 (0 : Int32)) 55 (0 : Int32)) 55).toInt = (0 : Int32).toInt := rfl
    have loop37 : ∀ (fu : Nat) (pz : Int32) (Rb : RS) (H : Heap) (locs : List Loc) (ls : Array Slot), (fr [16, 23, 24, 26, 27, 28, 29, 47, 49, 50, 52, 53, 54, 55, 56] R Rb) → (RI Rb) → (0 ≤ pz.toInt) → ((rI Rb 55).toInt = 0) → (60 - pz.toInt).toNat < fu → lv_has ls 3 [(0, .ref h0), (1, .int i0), (2, .int pz)] → mH D H0 (rM h0 Rb) kc ns H locs → W p l e ({ frames := 6, cells := 0, slots := 0, locals := 150 } : Room) s m args below meth c H locs 0 0 (MQ below (mQ D H0 gI (fun r S1 k1 n1 => kc = k1 ∧ ns = n1 ∧ ∃ R1, S1 = rM h0 R1 ∧ fr [16, 23, 24, 26, 27, 28, 29, 47, 49, 50, 52, 53, 54, 55, 56] R R1 ∧ RI R1)) args s 0 0 (mF H0)) (F0 m 37 ls []) := by
      intro fu
      induction fu with
      | zero => intro pz Rb H locs ls h37_0 h37_1 h37_2 h37_3 hfu; exact absurd hfu (by omega)
      | succ fu ih37 =>
        intro pz Rb H locs ls h37_0 h37_1 h37_2 h37_3 hfu hl hM
        have hF := h37_0
        have hI := h37_1
        refine lv_iload_n hx hb dX12_run_37 rfl (lv_at hl 2 rfl) ?_
        refine lv_bipush (v := 60) hx hb dX12_run_38 (by decide) ?_
        refine lv_icmp_ge (tgt := 56) hx hb dX12_run_40 (by decide) (fun cv8 => ?_) (fun cv8 => ?_)
        · have tcv8 := leT cv8
          refine lv_iconst (v := 0) hx hb dX12_run_56 (by decide) ?_
          refine lv_istore_n (lv' := [(2, .int 0), (0, .ref h0), (1, .int i0)]) hx hb dX12_run_57 rfl hl (by decide) rfl (fun ls hl => ?_)
          have loop58 : ∀ (fu : Nat) (nz : Int32) (Ra : RS) (H : Heap) (locs : List Loc) (ls : Array Slot), (fr [16, 23, 24, 26, 27, 28, 29, 47, 49, 50, 52, 53, 54, 55, 56] R Ra) → (RI Ra) → (0 ≤ nz.toInt ∧ nz.toInt ≤ 20) → (0 ≤ (rI Ra 55).toInt ∧ (rI Ra 55).toInt ≤ 60 * nz.toInt) → (20 - nz.toInt).toNat < fu → lv_has ls 3 [(0, .ref h0), (1, .int i0), (2, .int nz)] → mH D H0 (rM h0 Ra) kc ns H locs → W p l e ({ frames := 6, cells := 0, slots := 0, locals := 150 } : Room) s m args below meth c H locs 0 0 (MQ below (mQ D H0 gI (fun r S1 k1 n1 => kc = k1 ∧ ns = n1 ∧ ∃ R1, S1 = rM h0 R1 ∧ fr [16, 23, 24, 26, 27, 28, 29, 47, 49, 50, 52, 53, 54, 55, 56] R R1 ∧ RI R1)) args s 0 0 (mF H0)) (F0 m 58 ls []) := by
            intro fu
            induction fu with
            | zero => intro nz Ra H locs ls h58_0 h58_1 h58_2 h58_3 hfu; exact absurd hfu (by omega)
            | succ fu ih58 =>
              intro nz Ra H locs ls h58_0 h58_1 h58_2 h58_3 hfu hl hM
              have hF := h58_0
              have hI := h58_1
              refine lv_iload_n hx hb dX12_run_58 rfl (lv_at hl 2 rfl) ?_
              refine lv_aload_n hx hb dX12_run_59 rfl (lv_at hl 0 rfl) ?_
              refine rr_getI (k := 51) (v := rI R 51) C hM f_X12_313 rfl (hF.gI 51 (by decide)) dX12_run_60 ?_
              refine lv_topi (fun xv9 exv9 => ?_)
              have mxv9 : xv9.toInt = (rI R 51).toInt := by rw [exv9]
              have fxv9 := RI.acts hI0; rw [← exv9] at fxv9
              refine lv_icmp_ge (tgt := 81) hx hb dX12_run_63 (by decide) (fun cv10 => ?_) (fun cv10 => ?_)
              · have tcv10 := leT cv10
                refine lv_iload_n hx hb dX12_run_81 rfl (lv_at hl 2 rfl) ?_
                exact r_retI C hr hlk hM (⟨rfl, rfl, _, rfl, hF, hI⟩) dX12_run_82
              · have tcv10 := leF cv10
                refine lv_aload_n hx hb dX12_run_66 rfl (lv_at hl 0 rfl) ?_
                refine lv_iload_n hx hb dX12_run_67 rfl (lv_at hl 2 rfl) ?_
                refine lv_iload_n hx hb dX12_run_68 rfl (lv_at hl 1 rfl) ?_
                refine r_V (As := [.int nz, .int i0]) (rest := []) (ci := 12) C hM (c_X12_goes l D H0 h0 Ra kc ns nz i0 hI (by omega) (by rw [hF.gI 51 (by decide)]; omega) (by omega) (by omega) (by omega) (by omega)) i_X12_goes m_X12_337 rK0 rfl rfl rfl hl.1 rfl (Nat.le_of_ble_eq_true rfl) ⟨by decide, by decide⟩ ⟨by decide, by decide⟩ dX12_run_69 (fun xv14 Sv11 kv12 nv13 H locs pv15 hM => ?_)
                obtain ⟨rfl, rfl, Rv16, rfl, hf9, ⟨hI, hdxv14, hxv14⟩⟩ := pv15
                have hF : fr [16, 23, 24, 26, 27, 28, 29, 47, 49, 50, 52, 53, 54, 55, 56] R Rv16 := hF.trans hf9 (by decide)
                refine W.eq (g2 := F0 m 72 ls [.int xv14]) rfl ?_
                refine lv_if_eq (tgt := 81) hx hb dX12_run_72 (by decide) (fun cv17 => ?_) (fun cv17 => ?_)
                · have tcv17 := eqT cv17
                  refine lv_iload_n hx hb dX12_run_81 rfl (lv_at hl 2 rfl) ?_
                  exact r_retI C hr hlk hM (⟨rfl, rfl, _, rfl, hF, hI⟩) dX12_run_82
                · have tcv17 := eqF cv17
                  obtain ⟨xv18, exv18⟩ : ∃ y : Int32, y = nz + 1 := ⟨_, rfl⟩
                  try (have txv18 := addI (a := nz) (b := 1) (by omega) (by omega); rw [← exv18] at txv18)
                  refine lv_iinc (v := xv18) (lv' := [(2, .int xv18), (0, .ref h0), (1, .int i0)]) hx hb dX12_run_75 hl (k := 2) rfl (by rw [exv18]; rfl) (by decide) rfl (fun ls hl => ?_)
                  refine lv_goto (tgt := 58) hx hb dX12_run_78 (by decide) ?_
                  exact ih58 xv18 Rv16 _ _ _ (hF) (hI) (by omega) (by omega) (by omega) (lv_sub hl [1, 2, 0] rfl) hM
          exact loop58 (((20 - (0 : Int32).toInt).toNat) + 1) 0 Rb _ _ _ (hF) (hI) (by omega) (by omega) (by omega) (lv_sub hl [1, 2, 0] rfl) hM
        · have tcv8 := leF cv8
          refine lv_aload_n hx hb dX12_run_43 rfl (lv_at hl 0 rfl) ?_
          refine rr_getA (k := 47) (j := 26) C hM f_X12_98 rfl rfl dX12_run_44 ?_
          refine lv_iload_n hx hb dX12_run_47 rfl (lv_at hl 2 rfl) ?_
          refine lv_iconst (v := 0) hx hb dX12_run_48 (by decide) ?_
          refine rr_stZ (j := 26) (k := 47) (n := 60) (i := pz) (x := (0 : Int32)) C hM rfl rfl rfl (inI (by omega) (by show _ < (60 : Int); omega)) dX12_run_49 (fun H locs hM => ?_)
          have hM : mH D H0 (rM h0 (uA Rb 47 pz.toNatClampNeg (vp_nar .boolean (0 : Int32)))) kc ns H locs := hM
          have hF : fr [16, 23, 24, 26, 27, 28, 29, 47, 49, 50, 52, 53, 54, 55, 56] R (uA Rb 47 pz.toNatClampNeg (vp_nar .boolean (0 : Int32))) := hF.A (by decide)
          have hI : RI (uA Rb 47 pz.toNatClampNeg (vp_nar .boolean (0 : Int32))) := hI.fr (L := [47]) (fr.rf.A (by decide)) (by decide)
          obtain ⟨xv19, exv19⟩ : ∃ y : Int32, y = pz + 1 := ⟨_, rfl⟩
          try (have txv19 := addI (a := pz) (b := 1) (by omega) (by omega); rw [← exv19] at txv19)
          refine lv_iinc (v := xv19) (lv' := [(2, .int xv19), (0, .ref h0), (1, .int i0)]) hx hb dX12_run_50 hl (k := 2) rfl (by rw [exv19]; rfl) (by decide) rfl (fun ls hl => ?_)
          refine lv_goto (tgt := 37) hx hb dX12_run_53 (by decide) ?_
          have zv20 : (rI (uA Rb 47 pz.toNatClampNeg (vp_nar .boolean (0 : Int32))) 55).toInt = (rI Rb 55).toInt := rfl
          exact ih37 xv19 (uA Rb 47 pz.toNatClampNeg (vp_nar .boolean (0 : Int32))) _ _ _ (hF) (hI) (by omega) (by omega) (by omega) (lv_sub hl [1, 2, 0] rfl) hM
    have zv21 : (rI (uI (uI (uI (uI (uI R 56 (1 : Int32)) 52 (0 : Int32)) 53 (-1 : Int32)) 54 (0 : Int32)) 55 (0 : Int32)) 55).toInt = (0 : Int32).toInt := rfl
    exact loop37 (((60 - (0 : Int32).toInt).toNat) + 1) 0 (uI (uI (uI (uI (uI R 56 (1 : Int32)) 52 (0 : Int32)) 53 (-1 : Int32)) 54 (0 : Int32)) 55 (0 : Int32)) _ _ _ (hF) (hI) (by omega) (by omega) (by omega) (lv_sub hl [1, 2, 0] rfl) hM
  · have tcv6 := eqT cv6
    refine lv_iconst (v := -1) hx hb dX12_run_8 (by decide) ?_
    exact r_retI C hr hlk hM (⟨rfl, rfl, _, rfl, hF, hI⟩) dX12_run_9
set_option maxHeartbeats 4000000 in
set_option maxRecDepth 100000 in
theorem c_X12_read (l : Launch) (D : gD) (H0 : gB) (h0 : Nat) (R : RS) (kc ns : Nat) (i0 i1 : Int32) (hI : RI R)  : Met l yX12_read (wsU yX12_read cX12_read 3 (some .int)) ({ frames := 0, cells := 0, slots := 0, locals := 0 } : Room) (mP D H0 (rM h0 R) kc ns [.ref h0, .int i0, .int i1]) (mQ D H0 gI (fun r S1 k1 n1 => rM h0 R = S1 ∧ kc = k1 ∧ ns = n1 ∧ True)) 0 0 (mF H0) := by
  refine r_met (own := RX12) (by decide +kernel) rfl (Nat.le_of_ble_eq_true rfl) ?_
  intro p e s m args below meth c C hr hlk hnm H ls hl hM
  obtain ⟨hx, hb, hml, hown, hts, -, -⟩ := id C
  have hl : lv_has ls 3 [(0, .ref h0), (1, .int i0), (2, .int i1)] := hl
  have hF : fr [] R R := fr.rf
  have hI0 := hI
  have t_m1 : (-1 : Int32).toInt = -1 := by decide
  have t_0 : (0 : Int32).toInt = 0 := by decide
  have t_16 : (16 : Int32).toInt = 16 := by decide
  have t_40 : (40 : Int32).toInt = 40 := by decide
  have t_255 : (255 : Int32).toInt = 255 := by decide
  refine lv_aload_n hx hb dX12_read_0 rfl (lv_at hl 0 rfl) ?_
  refine rr_getI (k := 56) (v := rI R 56) C hM f_X12_334 rfl (hF.gI 56 (by decide)) dX12_read_1 ?_
  refine lv_topi (fun xv1 exv1 => ?_)
  have mxv1 : xv1.toInt = (rI R 56).toInt := by rw [exv1]
  refine lv_if_eq (tgt := 39) hx hb dX12_read_4 (by decide) (fun cv2 => ?_) (fun cv2 => ?_)
  · have tcv2 := eqT cv2
    refine lv_iconst (v := -1) hx hb dX12_read_39 (by decide) ?_
    refine lv_goto (tgt := 58) hx hb dX12_read_40 (by decide) ?_
    exact r_retI C hr hlk hM (⟨rfl, rfl, rfl, trivial⟩) dX12_read_58
  · have tcv2 := eqF cv2
    refine lv_iload_n hx hb dX12_read_7 rfl (lv_at hl 1 rfl) ?_
    refine lv_if_lt (tgt := 39) hx hb dX12_read_8 (by decide) (fun cv3 => ?_) (fun cv3 => ?_)
    · have tcv3 := ltT cv3
      refine lv_iconst (v := -1) hx hb dX12_read_39 (by decide) ?_
      refine lv_goto (tgt := 58) hx hb dX12_read_40 (by decide) ?_
      exact r_retI C hr hlk hM (⟨rfl, rfl, rfl, trivial⟩) dX12_read_58
    · have tcv3 := ltF cv3
      refine lv_iload_n hx hb dX12_read_11 rfl (lv_at hl 1 rfl) ?_
      refine lv_aload_n hx hb dX12_read_12 rfl (lv_at hl 0 rfl) ?_
      refine rr_getI (k := 55) (v := rI R 55) C hM f_X12_316 rfl (hF.gI 55 (by decide)) dX12_read_13 ?_
      refine lv_topi (fun xv4 exv4 => ?_)
      have mxv4 : xv4.toInt = (rI R 55).toInt := by rw [exv4]
      refine lv_icmp_ge (tgt := 39) hx hb dX12_read_16 (by decide) (fun cv5 => ?_) (fun cv5 => ?_)
      · have tcv5 := leT cv5
        refine lv_iconst (v := -1) hx hb dX12_read_39 (by decide) ?_
        refine lv_goto (tgt := 58) hx hb dX12_read_40 (by decide) ?_
        exact r_retI C hr hlk hM (⟨rfl, rfl, rfl, trivial⟩) dX12_read_58
      · have tcv5 := leF cv5
        refine lv_iload_n hx hb dX12_read_19 rfl (lv_at hl 1 rfl) ?_
        refine lv_bipush (v := 40) hx hb dX12_read_20 (by decide) ?_
        refine lv_icmp_ge (tgt := 39) hx hb dX12_read_22 (by decide) (fun cv6 => ?_) (fun cv6 => ?_)
        · have tcv6 := leT cv6
          refine lv_iconst (v := -1) hx hb dX12_read_39 (by decide) ?_
          refine lv_goto (tgt := 58) hx hb dX12_read_40 (by decide) ?_
          exact r_retI C hr hlk hM (⟨rfl, rfl, rfl, trivial⟩) dX12_read_58
        · have tcv6 := leF cv6
          refine lv_iload_n hx hb dX12_read_25 rfl (lv_at hl 2 rfl) ?_
          refine lv_if_lt (tgt := 39) hx hb dX12_read_26 (by decide) (fun cv7 => ?_) (fun cv7 => ?_)
          · have tcv7 := ltT cv7
            refine lv_iconst (v := -1) hx hb dX12_read_39 (by decide) ?_
            refine lv_goto (tgt := 58) hx hb dX12_read_40 (by decide) ?_
            exact r_retI C hr hlk hM (⟨rfl, rfl, rfl, trivial⟩) dX12_read_58
          · have tcv7 := ltF cv7
            refine lv_iload_n hx hb dX12_read_29 rfl (lv_at hl 2 rfl) ?_
            refine lv_aload_n hx hb dX12_read_30 rfl (lv_at hl 0 rfl) ?_
            refine rr_getA (k := 49) (j := 28) C hM f_X12_104 rfl rfl dX12_read_31 ?_
            refine lv_iload_n hx hb dX12_read_34 rfl (lv_at hl 1 rfl) ?_
            refine rr_ldI (j := 28) (k := 49) (n := 40) (v := rA R 49 i0.toNatClampNeg) C hM rfl rfl rfl (inI (by omega) (by show _ < (40 : Int); omega)) (congrFun (hF.gA 49 (by decide)) i0.toNatClampNeg) dX12_read_35 ?_
            refine lv_topi (fun xv8 exv8 => ?_)
            have fxv8 := RI.readSize hI0 i0.toNatClampNeg; rw [← exv8] at fxv8
            refine lv_icmp_lt (tgt := 43) hx hb dX12_read_36 (by decide) (fun cv9 => ?_) (fun cv9 => ?_)
            · have tcv9 := ltT cv9
              refine lv_aload_n hx hb dX12_read_43 rfl (lv_at hl 0 rfl) ?_
              refine rr_getA (k := 50) (j := 29) C hM f_X12_107 rfl rfl dX12_read_44 ?_
              refine lv_bipush (v := 16) hx hb dX12_read_47 (by decide) ?_
              refine lv_iload_n hx hb dX12_read_49 rfl (lv_at hl 1 rfl) ?_
              refine lv_imul hx hb dX12_read_50 ?_
              refine lv_topi (fun xv10 exv10 => ?_)
              try (have txv10 := mulD (a := i0) (k := 16) (n := 16) (by decide) (by omega) (by omega); rw [← exv10] at txv10)
              refine lv_iload_n hx hb dX12_read_51 rfl (lv_at hl 2 rfl) ?_
              refine lv_iadd hx hb dX12_read_52 ?_
              refine lv_topi (fun xv11 exv11 => ?_)
              try (have txv11 := addI (a := xv10) (b := i1) (by omega) (by omega); rw [← exv11] at txv11)
              refine rr_ldB (j := 29) (k := 50) (n := 640) (v := rA R 50 xv11.toNatClampNeg) C hM rfl rfl rfl (inI (by omega) (by show _ < (640 : Int); omega)) (congrFun (hF.gA 50 (by decide)) xv11.toNatClampNeg) dX12_read_53 ?_
              refine lv_topi (fun xv12 exv12 => ?_)
              refine lv_sipush (v := 255) hx hb dX12_read_54 (by decide) ?_
              refine lv_iand hx hb dX12_read_57 ?_
              refine lv_topi (fun xv13 exv13 => ?_)
              exact r_retI C hr hlk hM (⟨rfl, rfl, rfl, trivial⟩) dX12_read_58
            · have tcv9 := ltF cv9
              refine lv_iconst (v := -1) hx hb dX12_read_39 (by decide) ?_
              refine lv_goto (tgt := 58) hx hb dX12_read_40 (by decide) ?_
              exact r_retI C hr hlk hM (⟨rfl, rfl, rfl, trivial⟩) dX12_read_58
set_option maxHeartbeats 4000000 in
set_option maxRecDepth 100000 in
theorem c_X12_about (l : Launch) (D : gD) (H0 : gB) (h0 : Nat) (R : RS) (kc ns : Nat) (i0 : Int32) (hI : RI R)  : Met l yX12_about (wsU yX12_about cX12_about 2 (some .int)) ({ frames := 1, cells := 0, slots := 0, locals := 20 } : Room) (mP D H0 (rM h0 R) kc ns [.ref h0, .int i0]) (mQ D H0 gI (fun r S1 k1 n1 => rM h0 R = S1 ∧ kc = k1 ∧ ns = n1 ∧ True)) 0 0 (mF H0) := by
  refine r_met (own := RX12) (by decide +kernel) rfl (Nat.le_of_ble_eq_true rfl) ?_
  intro p e s m args below meth c C hr hlk hnm H ls hl hM
  obtain ⟨hx, hb, hml, hown, hts, -, -⟩ := id C
  have hl : lv_has ls 2 [(0, .ref h0), (1, .int i0)] := hl
  have hF : fr [] R R := fr.rf
  have hI0 := hI
  have t_m1 : (-1 : Int32).toInt = -1 := by decide
  have t_0 : (0 : Int32).toInt = 0 := by decide
  have t_10 : (10 : Int32).toInt = 10 := by decide
  refine lv_iload_n hx hb dX12_about_0 rfl (lv_at hl 1 rfl) ?_
  by_cases hv1_0 : i0.toInt = 0
  · refine lv_tableIn (off := 31) (tgt := 32) hx hb dX12_about_1 (by omega) (by omega) (by rw [hv1_0]; rfl) (by decide) ?_
    refine lv_aload_n hx hb dX12_about_32 rfl (lv_at hl 0 rfl) ?_
    refine rr_getI (k := 25) (v := rI R 25) C hM f_X12_65 rfl (hF.gI 25 (by decide)) dX12_about_33 ?_
    refine lv_topi (fun xv2 exv2 => ?_)
    have mxv2 : xv2.toInt = (rI R 25).toInt := by rw [exv2]
    exact r_retI C hr hlk hM (⟨rfl, rfl, rfl, trivial⟩) dX12_about_36
  by_cases hv1_1 : i0.toInt = 1
  · refine lv_tableIn (off := 36) (tgt := 37) hx hb dX12_about_1 (by omega) (by omega) (by rw [hv1_1]; rfl) (by decide) ?_
    refine lv_aload_n hx hb dX12_about_37 rfl (lv_at hl 0 rfl) ?_
    refine rr_getI (k := 36) (v := rI R 36) C hM f_X12_275 rfl (hF.gI 36 (by decide)) dX12_about_38 ?_
    refine lv_topi (fun xv3 exv3 => ?_)
    have mxv3 : xv3.toInt = (rI R 36).toInt := by rw [exv3]
    have fxv3 := RI.samples hI0; rw [← exv3] at fxv3
    exact r_retI C hr hlk hM (⟨rfl, rfl, rfl, trivial⟩) dX12_about_41
  by_cases hv1_2 : i0.toInt = 2
  · refine lv_tableIn (off := 41) (tgt := 42) hx hb dX12_about_1 (by omega) (by omega) (by rw [hv1_2]; rfl) (by decide) ?_
    refine lv_aload_n hx hb dX12_about_42 rfl (lv_at hl 0 rfl) ?_
    refine rr_getI (k := 51) (v := rI R 51) C hM f_X12_313 rfl (hF.gI 51 (by decide)) dX12_about_43 ?_
    refine lv_topi (fun xv4 exv4 => ?_)
    have mxv4 : xv4.toInt = (rI R 51).toInt := by rw [exv4]
    have fxv4 := RI.acts hI0; rw [← exv4] at fxv4
    exact r_retI C hr hlk hM (⟨rfl, rfl, rfl, trivial⟩) dX12_about_46
  by_cases hv1_3 : i0.toInt = 3
  · refine lv_tableIn (off := 46) (tgt := 47) hx hb dX12_about_1 (by omega) (by omega) (by rw [hv1_3]; rfl) (by decide) ?_
    refine lv_aload_n hx hb dX12_about_47 rfl (lv_at hl 0 rfl) ?_
    refine rr_getI (k := 2) (v := rI R 2) C hM f_X12_171 rfl (hF.gI 2 (by decide)) dX12_about_48 ?_
    refine lv_topi (fun xv5 exv5 => ?_)
    have mxv5 : xv5.toInt = (rI R 2).toInt := by rw [exv5]
    have fxv5 := RI.taped hI0; rw [← exv5] at fxv5
    exact r_retI C hr hlk hM (⟨rfl, rfl, rfl, trivial⟩) dX12_about_51
  refine lv_tableOut (tgt := 52) hx hb dX12_about_1 (by omega) (by decide) ?_
  refine lv_iload_n hx hb dX12_about_52 rfl (lv_at hl 1 rfl) ?_
  refine lv_bipush (v := 10) hx hb dX12_about_53 (by decide) ?_
  refine lv_isub hx hb dX12_about_55 ?_
  refine lv_topi (fun xv6 exv6 => ?_)
  try (have txv6 := subI (a := i0) (b := 10) (by omega) (by omega); rw [← exv6] at txv6)
  refine r_S (As := [.int xv6]) (rest := []) C hM (c_X12_isShelf l D H0 (rM h0 R) kc ns xv6) i_X12_isShelf m_X12_168 rfl hl.1 rfl (Nat.le_of_ble_eq_true rfl) ⟨by decide, by decide⟩ ⟨by decide, by decide⟩ dX12_about_56 (fun xv10 Sv7 kv8 nv9 H locs pv11 hM => ?_)
  obtain ⟨rfl, rfl, rfl, hxv10⟩ := pv11
  refine W.eq (g2 := F0 m 59 ls [.int xv10]) rfl ?_
  refine lv_if_eq (tgt := 74) hx hb dX12_about_59 (by decide) (fun cv12 => ?_) (fun cv12 => ?_)
  · have tcv12 := eqT cv12
    refine lv_iconst (v := -1) hx hb dX12_about_74 (by decide) ?_
    exact r_retI C hr hlk hM (⟨rfl, rfl, rfl, trivial⟩) dX12_about_75
  · have tcv12 := eqF cv12
    refine lv_aload_n hx hb dX12_about_62 rfl (lv_at hl 0 rfl) ?_
    refine rr_getA (k := 10) (j := 2) C hM f_X12_20 rfl rfl dX12_about_63 ?_
    refine lv_iload_n hx hb dX12_about_66 rfl (lv_at hl 1 rfl) ?_
    refine lv_bipush (v := 10) hx hb dX12_about_67 (by decide) ?_
    refine lv_isub hx hb dX12_about_69 ?_
    rw [← exv6]
    refine rr_ldI (j := 2) (k := 10) (n := 31) (v := rA R 10 xv6.toNatClampNeg) C hM rfl rfl rfl (inI (by omega) (by show _ < (31 : Int); omega)) (congrFun (hF.gA 10 (by decide)) xv6.toNatClampNeg) dX12_about_70 ?_
    refine lv_topi (fun xv13 exv13 => ?_)
    have mxv13 : xv13.toInt = (rA R 10 xv6.toNatClampNeg).toInt := by rw [exv13]
    have fxv13 := RI.many hI0 xv6.toNatClampNeg; rw [← exv13] at fxv13
    refine lv_goto (tgt := 75) hx hb dX12_about_71 (by decide) ?_
    exact r_retI C hr hlk hM (⟨rfl, rfl, rfl, trivial⟩) dX12_about_75
set_option maxHeartbeats 4000000 in
set_option maxRecDepth 100000 in
theorem c_X12_feed (l : Launch) (D : gD) (H0 : gB) (h0 : Nat) (R : RS) (kc ns : Nat) (i0 i1 i2 i3 i4 : Int32) (hI : RI R)  : Met l yX12_feed (wsU yX12_feed cX12_feed 8 (some .int)) ({ frames := 0, cells := 0, slots := 0, locals := 0 } : Room) (mP D H0 (rM h0 R) kc ns [.ref h0, .int i0, .int i1, .int i2, .int i3, .int i4]) (mQ D H0 gI (fun r S1 k1 n1 => kc = k1 ∧ ns = n1 ∧ ∃ R1, S1 = rM h0 R1 ∧ fr [0, 2] R R1 ∧ RI R1 ∧ ((1600 < (rI R 2).toInt + 20 ∧ r.toInt = -1 ∧ (rI R1 2).toInt = (rI R 2).toInt) ∨ ((rI R 2).toInt + 20 ≤ 1600 ∧ r.toInt = (rI R 2).toInt + 20 ∧ (rI R1 2).toInt = (rI R 2).toInt + 20)))) 0 0 (mF H0) := by
  refine r_met (own := RX12) (by decide +kernel) rfl (Nat.le_of_ble_eq_true rfl) ?_
  intro p e s m args below meth c C hr hlk hnm H ls hl hM
  obtain ⟨hx, hb, hml, hown, hts, -, -⟩ := id C
  have hl : lv_has ls 8 [(0, .ref h0), (1, .int i0), (2, .int i1), (3, .int i2), (4, .int i3), (5, .int i4)] := hl
  have hF : fr [0, 2] R R := fr.rf
  have hI0 := hI
  have t_m1 : (-1 : Int32).toInt = -1 := by decide
  have t_0 : (0 : Int32).toInt = 0 := by decide
  have t_1 : (1 : Int32).toInt = 1 := by decide
  have t_3 : (3 : Int32).toInt = 3 := by decide
  have t_4 : (4 : Int32).toInt = 4 := by decide
  have t_8 : (8 : Int32).toInt = 8 := by decide
  have t_12 : (12 : Int32).toInt = 12 := by decide
  have t_16 : (16 : Int32).toInt = 16 := by decide
  have t_20 : (20 : Int32).toInt = 20 := by decide
  have t_24 : (24 : Int32).toInt = 24 := by decide
  have t_1600 : (1600 : Int32).toInt = 1600 := by decide
  refine lv_aload_n hx hb dX12_feed_0 rfl (lv_at hl 0 rfl) ?_
  refine rr_getI (k := 2) (v := rI R 2) C hM f_X12_171 rfl rfl dX12_feed_1 ?_
  refine lv_topi (fun xv1 exv1 => ?_)
  have mxv1 : xv1.toInt = (rI R 2).toInt := by rw [exv1]
  have fxv1 : 0 ≤ xv1.toInt ∧ xv1.toInt ≤ 1600 := by rw [exv1]; exact RI.taped hI
  refine lv_bipush (v := 20) hx hb dX12_feed_4 (by decide) ?_
  refine lv_iadd hx hb dX12_feed_6 ?_
  refine lv_topi (fun xv2 exv2 => ?_)
  try (have txv2 := addI (a := xv1) (b := 20) (by omega) (by omega); rw [← exv2] at txv2)
  refine lv_sipush (v := 1600) hx hb dX12_feed_7 (by decide) ?_
  refine lv_icmp_le (tgt := 15) hx hb dX12_feed_10 (by decide) (fun cv3 => ?_) (fun cv3 => ?_)
  · have tcv3 := leT cv3
    refine lv_iconst (v := 0) hx hb dX12_feed_15 (by decide) ?_
    refine lv_istore (lv' := [(6, .int 0), (0, .ref h0), (1, .int i0), (2, .int i1), (3, .int i2), (4, .int i3), (5, .int i4)]) hx hb dX12_feed_16 hl (by decide) rfl (fun ls hl => ?_)
    have loop18 : ∀ (fu : Nat) (kz : Int32) (Ra : RS) (H : Heap) (locs : List Loc) (ls : Array Slot), (fr [0, 2] R Ra) → (RI Ra) → (0 ≤ kz.toInt) → ((rI Ra 2).toInt = (rI R 2).toInt ∧ (rI R 2).toInt + 20 ≤ 1600) → (20 - kz.toInt).toNat < fu → lv_has ls 8 [(0, .ref h0), (1, .int i0), (2, .int i1), (3, .int i2), (4, .int i3), (5, .int i4), (6, .int kz)] → mH D H0 (rM h0 Ra) kc ns H locs → W p l e ({ frames := 0, cells := 0, slots := 0, locals := 0 } : Room) s m args below meth c H locs 0 0 (MQ below (mQ D H0 gI (fun r S1 k1 n1 => kc = k1 ∧ ns = n1 ∧ ∃ R1, S1 = rM h0 R1 ∧ fr [0, 2] R R1 ∧ RI R1 ∧ ((1600 < (rI R 2).toInt + 20 ∧ r.toInt = -1 ∧ (rI R1 2).toInt = (rI R 2).toInt) ∨ ((rI R 2).toInt + 20 ≤ 1600 ∧ r.toInt = (rI R 2).toInt + 20 ∧ (rI R1 2).toInt = (rI R 2).toInt + 20)))) args s 0 0 (mF H0)) (F0 m 18 ls []) := by
      intro fu
      induction fu with
      | zero => intro kz Ra H locs ls h18_0 h18_1 h18_2 h18_3 hfu; exact absurd hfu (by omega)
      | succ fu ih18 =>
        intro kz Ra H locs ls h18_0 h18_1 h18_2 h18_3 hfu hl hM
        have hF := h18_0
        have hI := h18_1
        refine lv_iload hx hb dX12_feed_18 (lv_at hl 6 rfl) ?_
        refine lv_bipush (v := 20) hx hb dX12_feed_20 (by decide) ?_
        refine lv_icmp_ge (tgt := 105) hx hb dX12_feed_22 (by decide) (fun cv4 => ?_) (fun cv4 => ?_)
        · have tcv4 := leT cv4
          refine lv_aload_n hx hb dX12_feed_105 rfl (lv_at hl 0 rfl) ?_
          refine lv_dup hx hb dX12_feed_106 rfl ?_
          refine rr_getI (k := 2) (v := rI Ra 2) C hM f_X12_171 rfl rfl dX12_feed_107 ?_
          refine lv_topi (fun xv5 exv5 => ?_)
          have mxv5 : xv5.toInt = (rI Ra 2).toInt := by rw [exv5]
          have fxv5 : 0 ≤ xv5.toInt ∧ xv5.toInt ≤ 1600 := by rw [exv5]; exact RI.taped hI
          refine lv_bipush (v := 20) hx hb dX12_feed_110 (by decide) ?_
          refine lv_iadd hx hb dX12_feed_112 ?_
          refine lv_topi (fun xv6 exv6 => ?_)
          try (have txv6 := addI (a := xv5) (b := 20) (by omega) (by omega); rw [← exv6] at txv6)
          refine rr_putI (k := 2) (v := xv6) C hM f_X12_171 rfl (fun r h => by cases h; rfl) rfl dX12_feed_113 (fun H locs hM => ?_)
          have hM : mH D H0 (rM h0 (uI Ra 2 xv6)) kc ns H locs := hM
          have hF : fr [0, 2] R (uI Ra 2 xv6) := hF.I (by decide)
          have hI : RI (uI Ra 2 xv6) := hI.st2 (by omega)
          refine lv_aload_n hx hb dX12_feed_116 rfl (lv_at hl 0 rfl) ?_
          refine rr_getI (k := 2) (v := xv6) C hM f_X12_171 rfl (rfl) dX12_feed_117 ?_
          have zv7 : (rI (uI Ra 2 xv6) 2).toInt = xv6.toInt := rfl
          exact r_retI C hr hlk hM (⟨rfl, rfl, _, rfl, hF, hI, by omega⟩) dX12_feed_120
        · have tcv4 := leF cv4
          have join71 : ∀ (vz : Int32) (H : Heap) (locs : List Loc) (ls : Array Slot), lv_has ls 8 [(0, .ref h0), (1, .int i0), (2, .int i1), (3, .int i2), (4, .int i3), (5, .int i4), (6, .int kz)] → mH D H0 (rM h0 Ra) kc ns H locs → W p l e ({ frames := 0, cells := 0, slots := 0, locals := 0 } : Room) s m args below meth c H locs 0 0 (MQ below (mQ D H0 gI (fun r S1 k1 n1 => kc = k1 ∧ ns = n1 ∧ ∃ R1, S1 = rM h0 R1 ∧ fr [0, 2] R R1 ∧ RI R1 ∧ ((1600 < (rI R 2).toInt + 20 ∧ r.toInt = -1 ∧ (rI R1 2).toInt = (rI R 2).toInt) ∨ ((rI R 2).toInt + 20 ≤ 1600 ∧ r.toInt = (rI R 2).toInt + 20 ∧ (rI R1 2).toInt = (rI R 2).toInt + 20)))) args s 0 0 (mF H0)) (F0 m 71 ls [.int vz]) := by
            intro vz H locs ls  hl hM
            refine lv_istore (lv' := [(7, .int vz), (0, .ref h0), (1, .int i0), (2, .int i1), (3, .int i2), (4, .int i3), (5, .int i4), (6, .int kz)]) hx hb dX12_feed_71 hl (by decide) rfl (fun ls hl => ?_)
            refine lv_aload_n hx hb dX12_feed_73 rfl (lv_at hl 1 rfl) ?_
            refine rr_getA (k := 0) (j := 0) C hM f_X12_7 rfl rfl dX12_feed_74 ?_
            refine lv_aload_n hx hb dX12_feed_77 rfl (lv_at hl 1 rfl) ?_
            refine rr_getI (k := 2) (v := rI Ra 2) C hM f_X12_171 rfl rfl dX12_feed_78 ?_
            refine lv_topi (fun xv8 exv8 => ?_)
            have mxv8 : xv8.toInt = (rI Ra 2).toInt := by rw [exv8]
            have fxv8 : 0 ≤ xv8.toInt ∧ xv8.toInt ≤ 1600 := by rw [exv8]; exact RI.taped hI
            refine lv_iload hx hb dX12_feed_81 (lv_at hl 7 rfl) ?_
            refine lv_iadd hx hb dX12_feed_83 ?_
            refine lv_topi (fun xv9 exv9 => ?_)
            try (have txv9 := addI (a := xv8) (b := kz) (by omega) (by omega); rw [← exv9] at txv9)
            refine lv_iload hx hb dX12_feed_84 (lv_at hl 0 rfl) ?_
            refine lv_bipush (v := 24) hx hb dX12_feed_86 (by decide) ?_
            refine lv_bipush (v := 8) hx hb dX12_feed_88 (by decide) ?_
            refine lv_iload hx hb dX12_feed_90 (lv_at hl 7 rfl) ?_
            refine lv_iconst (v := 3) hx hb dX12_feed_92 (by decide) ?_
            refine lv_iand hx hb dX12_feed_93 ?_
            refine lv_topi (fun xv10 exv10 => ?_)
            refine lv_imul hx hb dX12_feed_94 ?_
            refine lv_topi (fun xv11 exv11 => ?_)
            try (have txv11 := mulD (a := xv10) (k := 8) (n := 8) (by decide) (by omega) (by omega); rw [← exv11] at txv11)
            refine lv_isub hx hb dX12_feed_95 ?_
            refine lv_topi (fun xv12 exv12 => ?_)
            try (have txv12 := subI (a := 24) (b := xv11) (by omega) (by omega); rw [← exv12] at txv12)
            refine lv_ishr hx hb dX12_feed_96 ?_
            refine lv_topi (fun xv13 exv13 => ?_)
            refine lv_i2b hx hb dX12_feed_97 rfl ?_
            refine lv_topi (fun xv14 exv14 => ?_)
            refine rr_stB (j := 0) (k := 0) (n := 1620) (i := xv9) (x := xv14) C hM rfl rfl rfl (inI (by omega) (by show _ < (1620 : Int); omega)) dX12_feed_98 (fun H locs hM => ?_)
            have hM : mH D H0 (rM h0 (uA Ra 0 xv9.toNatClampNeg (vp_nar .byte xv14))) kc ns H locs := hM
            have hF : fr [0, 2] R (uA Ra 0 xv9.toNatClampNeg (vp_nar .byte xv14)) := hF.A (by decide)
            have hI : RI (uA Ra 0 xv9.toNatClampNeg (vp_nar .byte xv14)) := hI.fr (L := [0]) (fr.rf.A (by decide)) (by decide)
            obtain ⟨xv15, exv15⟩ : ∃ y : Int32, y = kz + 1 := ⟨_, rfl⟩
            try (have txv15 := addI (a := kz) (b := 1) (by omega) (by omega); rw [← exv15] at txv15)
            refine lv_iinc (v := xv15) (lv' := [(6, .int xv15), (7, .int vz), (0, .ref h0), (1, .int i0), (2, .int i1), (3, .int i2), (4, .int i3), (5, .int i4)]) hx hb dX12_feed_99 hl (k := 7) rfl (by rw [exv15]; rfl) (by decide) rfl (fun ls hl => ?_)
            refine lv_goto (tgt := 18) hx hb dX12_feed_102 (by decide) ?_
            have zv16 : (rI (uA Ra 0 xv9.toNatClampNeg (vp_nar .byte xv14)) 2).toInt = (rI Ra 2).toInt := rfl
            exact ih18 xv15 (uA Ra 0 xv9.toNatClampNeg (vp_nar .byte xv14)) _ _ _ (hF) (hI) (by omega) (by omega) (by omega) (lv_sub hl [2, 3, 4, 5, 6, 7, 0] rfl) hM
          refine lv_iload hx hb dX12_feed_25 (lv_at hl 6 rfl) ?_
          refine lv_iconst (v := 4) hx hb dX12_feed_27 (by decide) ?_
          refine lv_icmp_ge (tgt := 35) hx hb dX12_feed_28 (by decide) (fun cv17 => ?_) (fun cv17 => ?_)
          · have tcv17 := leT cv17
            refine lv_iload hx hb dX12_feed_35 (lv_at hl 6 rfl) ?_
            refine lv_bipush (v := 8) hx hb dX12_feed_37 (by decide) ?_
            refine lv_icmp_ge (tgt := 46) hx hb dX12_feed_39 (by decide) (fun cv18 => ?_) (fun cv18 => ?_)
            · have tcv18 := leT cv18
              refine lv_iload hx hb dX12_feed_46 (lv_at hl 6 rfl) ?_
              refine lv_bipush (v := 12) hx hb dX12_feed_48 (by decide) ?_
              refine lv_icmp_ge (tgt := 57) hx hb dX12_feed_50 (by decide) (fun cv19 => ?_) (fun cv19 => ?_)
              · have tcv19 := leT cv19
                refine lv_iload hx hb dX12_feed_57 (lv_at hl 6 rfl) ?_
                refine lv_bipush (v := 16) hx hb dX12_feed_59 (by decide) ?_
                refine lv_icmp_ge (tgt := 69) hx hb dX12_feed_61 (by decide) (fun cv20 => ?_) (fun cv20 => ?_)
                · have tcv20 := leT cv20
                  refine lv_iload hx hb dX12_feed_69 (lv_at hl 5 rfl) ?_
                  exact join71 i4 _ _ _  (lv_sub hl [0, 1, 2, 3, 4, 5, 6] rfl) hM
                · have tcv20 := leF cv20
                  refine lv_iload hx hb dX12_feed_64 (lv_at hl 4 rfl) ?_
                  refine lv_goto (tgt := 71) hx hb dX12_feed_66 (by decide) ?_
                  exact join71 i3 _ _ _  (lv_sub hl [0, 1, 2, 3, 4, 5, 6] rfl) hM
              · have tcv19 := leF cv19
                refine lv_iload_n hx hb dX12_feed_53 rfl (lv_at hl 3 rfl) ?_
                refine lv_goto (tgt := 71) hx hb dX12_feed_54 (by decide) ?_
                exact join71 i2 _ _ _  (lv_sub hl [0, 1, 2, 3, 4, 5, 6] rfl) hM
            · have tcv18 := leF cv18
              refine lv_iload_n hx hb dX12_feed_42 rfl (lv_at hl 2 rfl) ?_
              refine lv_goto (tgt := 71) hx hb dX12_feed_43 (by decide) ?_
              exact join71 i1 _ _ _  (lv_sub hl [0, 1, 2, 3, 4, 5, 6] rfl) hM
          · have tcv17 := leF cv17
            refine lv_iload_n hx hb dX12_feed_31 rfl (lv_at hl 1 rfl) ?_
            refine lv_goto (tgt := 71) hx hb dX12_feed_32 (by decide) ?_
            exact join71 i0 _ _ _  (lv_sub hl [0, 1, 2, 3, 4, 5, 6] rfl) hM
    exact loop18 (((20 - (0 : Int32).toInt).toNat) + 1) 0 R _ _ _ (hF) (hI) (by omega) (by omega) (by omega) (lv_sub hl [1, 2, 3, 4, 5, 6, 0] rfl) hM
  · have tcv3 := leF cv3
    refine lv_iconst (v := -1) hx hb dX12_feed_13 (by decide) ?_
    exact r_retI C hr hlk hM (⟨rfl, rfl, _, rfl, hF, hI, by omega⟩) dX12_feed_14
set_option maxHeartbeats 4000000 in
set_option maxRecDepth 100000 in
theorem c_X12_end (l : Launch) (D : gD) (H0 : gB) (h0 : Nat) (R : RS) (kc ns : Nat) (i0 : Int32) (hI : RI R)  : Met l yX12_end (wsU yX12_end cX12_end 2 (some .int)) ({ frames := 0, cells := 0, slots := 0, locals := 0 } : Room) (mP D H0 (rM h0 R) kc ns [.ref h0, .int i0]) (mQ D H0 gI (fun r S1 k1 n1 => kc = k1 ∧ ns = n1 ∧ ∃ R1, S1 = rM h0 R1 ∧ fr [2] R R1 ∧ RI R1 ∧ ((0 ≤ i0.toInt ∧ i0.toInt ≤ (rI R 2).toInt ∧ r.toInt = i0.toInt ∧ (rI R1 2).toInt = i0.toInt) ∨ ((i0.toInt < 0 ∨ (rI R 2).toInt < i0.toInt) ∧ r.toInt = -1 ∧ (rI R1 2).toInt = (rI R 2).toInt)))) 0 0 (mF H0) := by
  refine r_met (own := RX12) (by decide +kernel) rfl (Nat.le_of_ble_eq_true rfl) ?_
  intro p e s m args below meth c C hr hlk hnm H ls hl hM
  obtain ⟨hx, hb, hml, hown, hts, -, -⟩ := id C
  have hl : lv_has ls 2 [(0, .ref h0), (1, .int i0)] := hl
  have hF : fr [2] R R := fr.rf
  have hI0 := hI
  have t_m1 : (-1 : Int32).toInt = -1 := by decide
  have t_0 : (0 : Int32).toInt = 0 := by decide
  refine lv_iload_n hx hb dX12_end_0 rfl (lv_at hl 1 rfl) ?_
  refine lv_if_lt (tgt := 12) hx hb dX12_end_1 (by decide) (fun cv1 => ?_) (fun cv1 => ?_)
  · have tcv1 := ltT cv1
    refine lv_iconst (v := -1) hx hb dX12_end_12 (by decide) ?_
    exact r_retI C hr hlk hM (⟨rfl, rfl, _, rfl, hF, hI, by omega⟩) dX12_end_13
  · have tcv1 := ltF cv1
    refine lv_iload_n hx hb dX12_end_4 rfl (lv_at hl 1 rfl) ?_
    refine lv_aload_n hx hb dX12_end_5 rfl (lv_at hl 0 rfl) ?_
    refine rr_getI (k := 2) (v := rI R 2) C hM f_X12_171 rfl rfl dX12_end_6 ?_
    refine lv_topi (fun xv2 exv2 => ?_)
    have mxv2 : xv2.toInt = (rI R 2).toInt := by rw [exv2]
    have fxv2 : 0 ≤ xv2.toInt ∧ xv2.toInt ≤ 1600 := by rw [exv2]; exact RI.taped hI
    refine lv_icmp_le (tgt := 14) hx hb dX12_end_9 (by decide) (fun cv3 => ?_) (fun cv3 => ?_)
    · have tcv3 := leT cv3
      refine lv_aload_n hx hb dX12_end_14 rfl (lv_at hl 0 rfl) ?_
      refine lv_iload_n hx hb dX12_end_15 rfl (lv_at hl 1 rfl) ?_
      refine rr_putI (k := 2) (v := i0) C hM f_X12_171 rfl (fun r h => by cases h; rfl) rfl dX12_end_16 (fun H locs hM => ?_)
      have hM : mH D H0 (rM h0 (uI R 2 i0)) kc ns H locs := hM
      have hF : fr [2] R (uI R 2 i0) := hF.I (by decide)
      have hI : RI (uI R 2 i0) := hI.st2 (by omega)
      refine lv_iload_n hx hb dX12_end_19 rfl (lv_at hl 1 rfl) ?_
      have zv4 : (rI (uI R 2 i0) 2).toInt = i0.toInt := rfl
      exact r_retI C hr hlk hM (⟨rfl, rfl, _, rfl, hF, hI, by omega⟩) dX12_end_20
    · have tcv3 := leF cv3
      refine lv_iconst (v := -1) hx hb dX12_end_12 (by decide) ?_
      exact r_retI C hr hlk hM (⟨rfl, rfl, _, rfl, hF, hI, by omega⟩) dX12_end_13
