set_option maxHeartbeats 4000000 in
set_option maxRecDepth 100000 in
theorem c_X12_isInHarm (l : Launch) (D : gD) (H0 : gB) (h0 : Nat) (R : RS) (kc ns : Nat) (i0 i1 : Int32) (hI : RI R) (g00 : 0 ≤ i0.toInt) (g10 : i0.toInt < 30) (p01 : 0 ≤ i1.toInt) (p11 : i1.toInt < (rA R 10 i0.toNatClampNeg).toInt)  : Met l yX12_isInHarm (wsU yX12_isInHarm cX12_isInHarm 4 (some .boolean)) ({ frames := 1, cells := 0, slots := 0, locals := 21 } : Room) (mP D H0 (rM h0 R) kc ns [.ref h0, .int i0, .int i1]) (mQ D H0 gI (fun r S1 k1 n1 => rM h0 R = S1 ∧ kc = k1 ∧ ns = n1 ∧ (r = 0 ∨ r = 1))) 0 0 (mF H0) := by
  refine r_met (own := RX12) (by decide +kernel) rfl (Nat.le_of_ble_eq_true rfl) ?_
  intro p e s m args below meth c C hr hlk hnm H ls hl hM
  obtain ⟨hx, hb, hml, hown, hts, -, -⟩ := id C
  have hl : lv_has ls 4 [(0, .ref h0), (1, .int i0), (2, .int i1)] := hl
  have hF : fr [] R R := fr.rf
  have hI0 := hI
  have t_0 : (0 : Int32).toInt = 0 := by decide
  have t_1 : (1 : Int32).toInt = 1 := by decide
  have fm0 := RI.many hI i0.toNatClampNeg
  refine lv_iload_n hx hb dX12_isInHarm_0 rfl (lv_at hl 2 rfl) ?_
  refine lv_istore_n (lv' := [(3, .int i1), (0, .ref h0), (1, .int i0), (2, .int i1)]) hx hb dX12_isInHarm_1 rfl hl (by decide) rfl (fun ls hl => ?_)
  have loop2 : ∀ (fu : Nat) (xz : Int32) (H : Heap) (locs : List Loc) (ls : Array Slot), (-1 ≤ xz.toInt ∧ xz.toInt < (rA R 10 i0.toNatClampNeg).toInt) → (xz.toInt + 1).toNat < fu → lv_has ls 4 [(0, .ref h0), (1, .int i0), (2, .int i1), (3, .int xz)] → mH D H0 (rM h0 R) kc ns H locs → W p l e ({ frames := 1, cells := 0, slots := 0, locals := 21 } : Room) s m args below meth c H locs 0 0 (MQ below (mQ D H0 gI (fun r S1 k1 n1 => rM h0 R = S1 ∧ kc = k1 ∧ ns = n1 ∧ (r = 0 ∨ r = 1))) args s 0 0 (mF H0)) (F0 m 2 ls []) := by
    intro fu
    induction fu with
    | zero => intro xz H locs ls h2_0 hfu; exact absurd hfu (by omega)
    | succ fu ih2 =>
      intro xz H locs ls h2_0 hfu hl hM
      refine lv_iload_n hx hb dX12_isInHarm_2 rfl (lv_at hl 3 rfl) ?_
      refine lv_if_lt (tgt := 33) hx hb dX12_isInHarm_3 (by decide) (fun cv1 => ?_) (fun cv1 => ?_)
      · have tcv1 := ltT cv1
        refine lv_iload_n hx hb dX12_isInHarm_33 rfl (lv_at hl 3 rfl) ?_
        refine lv_if_lt (tgt := 41) hx hb dX12_isInHarm_34 (by decide) (fun cv2 => ?_) (fun cv2 => ?_)
        · have tcv2 := ltT cv2
          refine lv_iconst (v := 0) hx hb dX12_isInHarm_41 (by decide) ?_
          exact r_retZ C hr hlk rfl hM (⟨rfl, rfl, rfl, by decide⟩) dX12_isInHarm_42
        · have tcv2 := ltF cv2
          refine lv_iconst (v := 1) hx hb dX12_isInHarm_37 (by decide) ?_
          refine lv_goto (tgt := 42) hx hb dX12_isInHarm_38 (by decide) ?_
          exact r_retZ C hr hlk rfl hM (⟨rfl, rfl, rfl, by decide⟩) dX12_isInHarm_42
      · have tcv1 := ltF cv1
        refine lv_aload_n hx hb dX12_isInHarm_6 rfl (lv_at hl 0 rfl) ?_
        refine rr_getA (k := 19) (j := 11) C hM f_X12_49 rfl rfl dX12_isInHarm_7 ?_
        refine lv_iload_n hx hb dX12_isInHarm_10 rfl (lv_at hl 1 rfl) ?_
        refine lv_iload_n hx hb dX12_isInHarm_11 rfl (lv_at hl 3 rfl) ?_
        refine r_S (As := [.int i0, .int xz]) (rest := [.ref (h0 + 1 + 11)]) C hM (c_X12_spot l D H0 (rM h0 R) kc ns i0 xz (by omega) (by omega) (by omega) (by omega)) i_X12_spot m_X12_151 rfl hl.1 rfl (Nat.le_of_ble_eq_true rfl) ⟨by decide, by decide⟩ ⟨by decide, by decide⟩ dX12_isInHarm_12 (fun xv6 Sv3 kv4 nv5 H locs pv7 hM => ?_)
        obtain ⟨rfl, rfl, rfl, hxv6⟩ := pv7
        refine W.eq (g2 := F0 m 15 ls [.int xv6, .ref (h0 + 1 + 11)]) rfl ?_
        refine rr_ldZ (j := 11) (k := 19) (n := 1860) (v := rA R 19 xv6.toNatClampNeg) C hM rfl rfl rfl (inI (by omega) (by show _ < (1860 : Int); omega)) (congrFun (hF.gA 19 (by decide)) xv6.toNatClampNeg) dX12_isInHarm_15 ?_
        refine lv_topi (fun xv8 exv8 => ?_)
        refine lv_if_ne (tgt := 33) hx hb dX12_isInHarm_16 (by decide) (fun cv9 => ?_) (fun cv9 => ?_)
        · have tcv9 := eqF cv9
          refine lv_iload_n hx hb dX12_isInHarm_33 rfl (lv_at hl 3 rfl) ?_
          refine lv_if_lt (tgt := 41) hx hb dX12_isInHarm_34 (by decide) (fun cv10 => ?_) (fun cv10 => ?_)
          · have tcv10 := ltT cv10
            refine lv_iconst (v := 0) hx hb dX12_isInHarm_41 (by decide) ?_
            exact r_retZ C hr hlk rfl hM (⟨rfl, rfl, rfl, by decide⟩) dX12_isInHarm_42
          · have tcv10 := ltF cv10
            refine lv_iconst (v := 1) hx hb dX12_isInHarm_37 (by decide) ?_
            refine lv_goto (tgt := 42) hx hb dX12_isInHarm_38 (by decide) ?_
            exact r_retZ C hr hlk rfl hM (⟨rfl, rfl, rfl, by decide⟩) dX12_isInHarm_42
        · have tcv9 := eqT cv9
          refine lv_aload_n hx hb dX12_isInHarm_19 rfl (lv_at hl 0 rfl) ?_
          refine rr_getA (k := 11) (j := 3) C hM f_X12_24 rfl rfl dX12_isInHarm_20 ?_
          refine lv_iload_n hx hb dX12_isInHarm_23 rfl (lv_at hl 1 rfl) ?_
          refine lv_iload_n hx hb dX12_isInHarm_24 rfl (lv_at hl 3 rfl) ?_
          refine r_S (As := [.int i0, .int xz]) (rest := [.ref (h0 + 1 + 3)]) C hM (c_X12_spot l D H0 (rM h0 R) kc ns i0 xz (by omega) (by omega) (by omega) (by omega)) i_X12_spot m_X12_151 rfl hl.1 rfl (Nat.le_of_ble_eq_true rfl) ⟨by decide, by decide⟩ ⟨by decide, by decide⟩ dX12_isInHarm_25 (fun xv14 Sv11 kv12 nv13 H locs pv15 hM => ?_)
          obtain ⟨rfl, rfl, rfl, hxv14⟩ := pv15
          have ee9 : xv6 = xv14 := Int32.toInt_inj.mp (by omega)
          subst ee9
          refine W.eq (g2 := F0 m 28 ls [.int xv6, .ref (h0 + 1 + 3)]) rfl ?_
          refine rr_ldI (j := 3) (k := 11) (n := 1860) (v := rA R 11 xv6.toNatClampNeg) C hM rfl rfl rfl (inI (by omega) (by show _ < (1860 : Int); omega)) (congrFun (hF.gA 11 (by decide)) xv6.toNatClampNeg) dX12_isInHarm_28 ?_
          refine lv_topi (fun xv16 exv16 => ?_)
          try (have fxv16 := PG.at11 hI0 (g := i0) (p := xz) (x := xv6) (by omega) (by omega) (by omega) (by omega) (by omega); rw [← exv16] at fxv16)
          refine lv_istore_n (lv' := [(3, .int xv16), (0, .ref h0), (1, .int i0), (2, .int i1)]) hx hb dX12_isInHarm_29 rfl hl (by decide) rfl (fun ls hl => ?_)
          refine lv_goto (tgt := 2) hx hb dX12_isInHarm_30 (by decide) ?_
          exact ih2 xv16 _ _ _ (by omega) (by omega) (lv_sub hl [1, 2, 3, 0] rfl) hM
  exact loop2 (((i1.toInt + 1).toNat) + 1) i1 _ _ _ (by omega) (by omega) (lv_sub hl [1, 2, 3, 0] rfl) hM
set_option maxHeartbeats 4000000 in
set_option maxRecDepth 100000 in
theorem c_X12_lay (l : Launch) (D : gD) (H0 : gB) (h0 : Nat) (R : RS) (kc ns : Nat) (i0 i1 i2 i3 : Int32) (hI : RI R) (r0 : 0 ≤ i0.toInt) (r1 : i0.toInt ≤ 20) (g01 : 0 ≤ i1.toInt) (g11 : i1.toInt < 30) (p02 : 0 ≤ i2.toInt) (p12 : i2.toInt < (rA R 10 i1.toNatClampNeg).toInt) (p03 : 0 ≤ i3.toInt) (p13 : i3.toInt < (rA R 10 i1.toNatClampNeg).toInt)  : Met l yX12_lay (wsU yX12_lay cX12_lay 12 (some .boolean)) ({ frames := 1, cells := 0, slots := 0, locals := 21 } : Room) (mP D H0 (rM h0 R) kc ns [.ref h0, .int i0, .int i1, .int i2, .int i3]) (mQ D H0 gI (fun r S1 k1 n1 => kc = k1 ∧ ns = n1 ∧ ∃ R1, S1 = rM h0 R1 ∧ fr [39, 40, 41, 42, 43, 44] R R1 ∧ RI R1 ∧ (r = 0 ∨ r = 1))) 0 0 (mF H0) := by
  refine r_met (own := RX12) (by decide +kernel) rfl (Nat.le_of_ble_eq_true rfl) ?_
  intro p e s m args below meth c C hr hlk hnm H ls hl hM
  obtain ⟨hx, hb, hml, hown, hts, -, -⟩ := id C
  have hl : lv_has ls 12 [(0, .ref h0), (1, .int i0), (2, .int i1), (3, .int i2), (4, .int i3)] := hl
  have hF : fr [39, 40, 41, 42, 43, 44] R R := fr.rf
  have hI0 := hI
  have t_m1 : (-1 : Int32).toInt = -1 := by decide
  have t_0 : (0 : Int32).toInt = 0 := by decide
  have t_1 : (1 : Int32).toInt = 1 := by decide
  have t_12 : (12 : Int32).toInt = 12 := by decide
  have fm1 := RI.many hI i1.toNatClampNeg
  refine lv_aload_n hx hb dX12_lay_0 rfl (lv_at hl 0 rfl) ?_
  refine rr_getA (k := 14) (j := 6) C hM f_X12_33 rfl rfl dX12_lay_1 ?_
  refine lv_iload_n hx hb dX12_lay_4 rfl (lv_at hl 2 rfl) ?_
  refine lv_iload_n hx hb dX12_lay_5 rfl (lv_at hl 3 rfl) ?_
  refine r_S (As := [.int i1, .int i2]) (rest := [.ref (h0 + 1 + 6)]) C hM (c_X12_spot l D H0 (rM h0 R) kc ns i1 i2 (by omega) (by omega) (by omega) (by omega)) i_X12_spot m_X12_151 rfl hl.1 rfl (Nat.le_of_ble_eq_true rfl) ⟨by decide, by decide⟩ ⟨by decide, by decide⟩ dX12_lay_6 (fun xv4 Sv1 kv2 nv3 H locs pv5 hM => ?_)
  obtain ⟨rfl, rfl, rfl, hxv4⟩ := pv5
  refine W.eq (g2 := F0 m 9 ls [.int xv4, .ref (h0 + 1 + 6)]) rfl ?_
  refine rr_ldI (j := 6) (k := 14) (n := 1860) (v := rA R 14 xv4.toNatClampNeg) C hM rfl rfl rfl (inI (by omega) (by show _ < (1860 : Int); omega)) (congrFun (hF.gA 14 (by decide)) xv4.toNatClampNeg) dX12_lay_9 ?_
  refine lv_topi (fun xv6 exv6 => ?_)
  try (have fxv6 := PG.at14 hI0 (g := i1) (p := i2) (x := xv4) (by omega) (by omega) (by omega) (by omega) (by omega); rw [← exv6] at fxv6)
  have fdxv6 : (rA R 14 (60 * i1.toNatClampNeg + i2.toNatClampNeg)).toInt = xv6.toInt := by rw [exv6, sp9 (g := i1) (p := i2) (x := xv4) (by omega) (by omega) (by omega)]
  refine lv_iconst (v := 1) hx hb dX12_lay_10 (by decide) ?_
  refine lv_iadd hx hb dX12_lay_11 ?_
  refine lv_topi (fun xv7 exv7 => ?_)
  try (have txv7 := addI (a := xv6) (b := 1) (by omega) (by omega); rw [← exv7] at txv7)
  refine lv_istore (lv' := [(5, .int xv7), (0, .ref h0), (1, .int i0), (2, .int i1), (3, .int i2), (4, .int i3)]) hx hb dX12_lay_12 hl (by decide) rfl (fun ls hl => ?_)
  refine lv_aload_n hx hb dX12_lay_14 rfl (lv_at hl 1 rfl) ?_
  refine rr_getA (k := 14) (j := 6) C hM f_X12_33 rfl rfl dX12_lay_15 ?_
  refine lv_iload_n hx hb dX12_lay_18 rfl (lv_at hl 3 rfl) ?_
  refine lv_iload hx hb dX12_lay_19 (lv_at hl 5 rfl) ?_
  refine r_S (As := [.int i1, .int i3]) (rest := [.ref (h0 + 1 + 6)]) C hM (c_X12_spot l D H0 (rM h0 R) kc ns i1 i3 (by omega) (by omega) (by omega) (by omega)) i_X12_spot m_X12_151 rfl hl.1 rfl (Nat.le_of_ble_eq_true rfl) ⟨by decide, by decide⟩ ⟨by decide, by decide⟩ dX12_lay_21 (fun xv11 Sv8 kv9 nv10 H locs pv12 hM => ?_)
  obtain ⟨rfl, rfl, rfl, hxv11⟩ := pv12
  refine W.eq (g2 := F0 m 24 ls [.int xv11, .ref (h0 + 1 + 6)]) rfl ?_
  refine rr_ldI (j := 6) (k := 14) (n := 1860) (v := rA R 14 xv11.toNatClampNeg) C hM rfl rfl rfl (inI (by omega) (by show _ < (1860 : Int); omega)) (congrFun (hF.gA 14 (by decide)) xv11.toNatClampNeg) dX12_lay_24 ?_
  refine lv_topi (fun xv13 exv13 => ?_)
  try (have fxv13 := PG.at14 hI0 (g := i1) (p := i3) (x := xv11) (by omega) (by omega) (by omega) (by omega) (by omega); rw [← exv13] at fxv13)
  have fdxv13 : (rA R 14 (60 * i1.toNatClampNeg + i3.toNatClampNeg)).toInt = xv13.toInt := by rw [exv13, sp9 (g := i1) (p := i3) (x := xv11) (by omega) (by omega) (by omega)]
  refine lv_iconst (v := 1) hx hb dX12_lay_25 (by decide) ?_
  refine lv_iadd hx hb dX12_lay_26 ?_
  refine lv_topi (fun xv14 exv14 => ?_)
  try (have txv14 := addI (a := xv13) (b := 1) (by omega) (by omega); rw [← exv14] at txv14)
  refine lv_iload hx hb dX12_lay_27 (lv_at hl 0 rfl) ?_
  refine lv_icmp_ne (tgt := 38) hx hb dX12_lay_29 (by decide) (fun cv15 => ?_) (fun cv15 => ?_)
  · have tcv15 := eqF cv15
    refine lv_iconst (v := 0) hx hb dX12_lay_38 (by decide) ?_
    exact r_retZ C hr hlk rfl hM (⟨rfl, rfl, _, rfl, hF, hI, by decide⟩) dX12_lay_39
  · have tcv15 := eqT cv15
    refine lv_iload_n hx hb dX12_lay_32 rfl (lv_at hl 4 rfl) ?_
    refine lv_iload hx hb dX12_lay_33 (lv_at hl 5 rfl) ?_
    refine lv_icmp_ne (tgt := 40) hx hb dX12_lay_35 (by decide) (fun cv16 => ?_) (fun cv16 => ?_)
    · have tcv16 := eqF cv16
      refine lv_iload_n hx hb dX12_lay_40 rfl (lv_at hl 4 rfl) ?_
      refine lv_istore (lv' := [(6, .int i2), (5, .int xv7), (0, .ref h0), (1, .int i0), (2, .int i1), (3, .int i2), (4, .int i3)]) hx hb dX12_lay_41 hl (by decide) rfl (fun ls hl => ?_)
      refine lv_iload hx hb dX12_lay_43 (lv_at hl 6 rfl) ?_
      refine lv_istore (lv' := [(7, .int i3), (6, .int i2), (5, .int xv7), (0, .ref h0), (1, .int i0), (2, .int i1), (3, .int i2), (4, .int i3)]) hx hb dX12_lay_45 hl (by decide) rfl (fun ls hl => ?_)
      refine lv_iconst (v := 0) hx hb dX12_lay_47 (by decide) ?_
      refine lv_istore (lv' := [(8, .int 0), (7, .int i3), (6, .int i2), (5, .int xv7), (0, .ref h0), (1, .int i0), (2, .int i1), (3, .int i2), (4, .int i3)]) hx hb dX12_lay_48 hl (by decide) rfl (fun ls hl => ?_)
      refine lv_iload hx hb dX12_lay_50 (lv_at hl 3 rfl) ?_
      refine lv_iconst (v := 1) hx hb dX12_lay_52 (by decide) ?_
      refine lv_isub hx hb dX12_lay_53 ?_
      refine lv_topi (fun xv17 exv17 => ?_)
      try (have txv17 := subI (a := xv7) (b := 1) (by omega) (by omega); rw [← exv17] at txv17)
      refine lv_istore (lv' := [(9, .int xv17), (8, .int 0), (7, .int i3), (6, .int i2), (5, .int xv7), (0, .ref h0), (1, .int i0), (2, .int i1), (3, .int i2), (4, .int i3)]) hx hb dX12_lay_54 hl (by decide) rfl (fun ls hl => ?_)
      have loop56 : ∀ (fu : Nat) (kz : Int32) (nz : Int32) (qz : Int32) (pz : Int32) (Ra : RS) (H : Heap) (locs : List Loc) (ls : Array Slot), (fr [39, 40, 41, 42, 43, 44] R Ra) → (RI Ra) → (-1 ≤ kz.toInt ∧ kz.toInt ≤ 11) → (kz.toInt < 0 ∨ (0 ≤ pz.toInt ∧ pz.toInt < (rA R 10 i1.toNatClampNeg).toInt ∧ (rA R 14 (60 * i1.toNatClampNeg + pz.toNatClampNeg)).toInt = kz.toInt)) → (kz.toInt < 0 ∨ (0 ≤ qz.toInt ∧ qz.toInt < (rA R 10 i1.toNatClampNeg).toInt ∧ (rA R 14 (60 * i1.toNatClampNeg + qz.toNatClampNeg)).toInt = kz.toInt)) → (kz.toInt + 1).toNat < fu → lv_has ls 12 [(0, .ref h0), (1, .int i0), (2, .int i1), (3, .int i2), (4, .int i3), (5, .int xv7), (6, .int pz), (7, .int qz), (8, .int nz), (9, .int kz)] → mH D H0 (rM h0 Ra) kc ns H locs → W p l e ({ frames := 1, cells := 0, slots := 0, locals := 21 } : Room) s m args below meth c H locs 0 0 (MQ below (mQ D H0 gI (fun r S1 k1 n1 => kc = k1 ∧ ns = n1 ∧ ∃ R1, S1 = rM h0 R1 ∧ fr [39, 40, 41, 42, 43, 44] R R1 ∧ RI R1 ∧ (r = 0 ∨ r = 1))) args s 0 0 (mF H0)) (F0 m 56 ls []) := by
        intro fu
        induction fu with
        | zero => intro kz nz qz pz Ra H locs ls h56_0 h56_1 h56_2 h56_3 h56_4 hfu; exact absurd hfu (by omega)
        | succ fu ih56 =>
          intro kz nz qz pz Ra H locs ls h56_0 h56_1 h56_2 h56_3 h56_4 hfu hl hM
          have hF := h56_0
          have hI := h56_1
          refine lv_iload hx hb dX12_lay_56 (lv_at hl 9 rfl) ?_
          refine lv_if_lt (tgt := 283) hx hb dX12_lay_58 (by decide) (fun cv18 => ?_) (fun cv18 => ?_)
          · have tcv18 := ltT cv18
            refine lv_aload_n hx hb dX12_lay_283 rfl (lv_at hl 0 rfl) ?_
            refine rr_getA (k := 41) (j := 20) C hM f_X12_80 rfl rfl dX12_lay_284 ?_
            refine lv_iload_n hx hb dX12_lay_287 rfl (lv_at hl 1 rfl) ?_
            refine lv_iload hx hb dX12_lay_288 (lv_at hl 5 rfl) ?_
            refine rr_stI (j := 20) (k := 41) (n := 21) (i := i0) (x := xv7) C hM rfl rfl rfl (inI (by omega) (by show _ < (21 : Int); omega)) dX12_lay_290 (fun H locs hM => ?_)
            have hM : mH D H0 (rM h0 (uA Ra 41 i0.toNatClampNeg xv7)) kc ns H locs := hM
            have hF : fr [39, 40, 41, 42, 43, 44] R (uA Ra 41 i0.toNatClampNeg xv7) := hF.A (by decide)
            have hI : RI (uA Ra 41 i0.toNatClampNeg xv7) := hI.st41 (by omega)
            refine lv_iload hx hb dX12_lay_291 (lv_at hl 8 rfl) ?_
            refine lv_iconst (v := 1) hx hb dX12_lay_293 (by decide) ?_
            refine lv_icmp_ne (tgt := 301) hx hb dX12_lay_294 (by decide) (fun cv19 => ?_) (fun cv19 => ?_)
            · have tcv19 := eqF cv19
              refine lv_iconst (v := 0) hx hb dX12_lay_301 (by decide) ?_
              exact r_retZ C hr hlk rfl hM (⟨rfl, rfl, _, rfl, hF, hI, by decide⟩) dX12_lay_302
            · have tcv19 := eqT cv19
              refine lv_iconst (v := 1) hx hb dX12_lay_297 (by decide) ?_
              refine lv_goto (tgt := 302) hx hb dX12_lay_298 (by decide) ?_
              exact r_retZ C hr hlk rfl hM (⟨rfl, rfl, _, rfl, hF, hI, by decide⟩) dX12_lay_302
          · have tcv18 := ltF cv18
            refine lv_iload_n hx hb dX12_lay_61 rfl (lv_at hl 2 rfl) ?_
            refine lv_iload hx hb dX12_lay_62 (lv_at hl 6 rfl) ?_
            refine r_S (As := [.int i1, .int pz]) (rest := []) C hM (c_X12_spot l D H0 (rM h0 Ra) kc ns i1 pz (by omega) (by omega) (by omega) (by omega)) i_X12_spot m_X12_151 rfl hl.1 rfl (Nat.le_of_ble_eq_true rfl) ⟨by decide, by decide⟩ ⟨by decide, by decide⟩ dX12_lay_64 (fun xv23 Sv20 kv21 nv22 H locs pv24 hM => ?_)
            obtain ⟨rfl, rfl, rfl, hxv23⟩ := pv24
            refine W.eq (g2 := F0 m 67 ls [.int xv23]) rfl ?_
            refine lv_istore (lv' := [(10, .int xv23), (0, .ref h0), (1, .int i0), (2, .int i1), (3, .int i2), (4, .int i3), (5, .int xv7), (6, .int pz), (7, .int qz), (8, .int nz), (9, .int kz)]) hx hb dX12_lay_67 hl (by decide) rfl (fun ls hl => ?_)
            refine lv_iload_n hx hb dX12_lay_69 rfl (lv_at hl 3 rfl) ?_
            refine lv_iload hx hb dX12_lay_70 (lv_at hl 8 rfl) ?_
            refine r_S (As := [.int i1, .int qz]) (rest := []) C hM (c_X12_spot l D H0 (rM h0 Ra) kc ns i1 qz (by omega) (by omega) (by omega) (by omega)) i_X12_spot m_X12_151 rfl hl.1 rfl (Nat.le_of_ble_eq_true rfl) ⟨by decide, by decide⟩ ⟨by decide, by decide⟩ dX12_lay_72 (fun xv28 Sv25 kv26 nv27 H locs pv29 hM => ?_)
            obtain ⟨rfl, rfl, rfl, hxv28⟩ := pv29
            refine W.eq (g2 := F0 m 75 ls [.int xv28]) rfl ?_
            refine lv_istore (lv' := [(11, .int xv28), (10, .int xv23), (0, .ref h0), (1, .int i0), (2, .int i1), (3, .int i2), (4, .int i3), (5, .int xv7), (6, .int pz), (7, .int qz), (8, .int nz), (9, .int kz)]) hx hb dX12_lay_75 hl (by decide) rfl (fun ls hl => ?_)
            refine lv_aload_n hx hb dX12_lay_77 rfl (lv_at hl 2 rfl) ?_
            refine rr_getA (k := 17) (j := 9) C hM f_X12_42 rfl rfl dX12_lay_78 ?_
            refine lv_iload hx hb dX12_lay_81 (lv_at hl 1 rfl) ?_
            refine rr_ldJ (j := 9) (k := 17) (n := 1860) (v := rB R 17 xv23.toNatClampNeg) C hM rfl rfl rfl (inI (by omega) (by show _ < (1860 : Int); omega)) (congrFun (hF.gB 17 (by decide)) xv23.toNatClampNeg) dX12_lay_83 ?_
            refine lv_topl (fun lv30 elv30 => ?_)
            refine lv_aload_n hx hb dX12_lay_84 rfl (lv_at hl 2 rfl) ?_
            refine rr_getA (k := 17) (j := 9) C hM f_X12_42 rfl rfl dX12_lay_85 ?_
            refine lv_iload hx hb dX12_lay_88 (lv_at hl 0 rfl) ?_
            refine rr_ldJ (j := 9) (k := 17) (n := 1860) (v := rB R 17 xv28.toNatClampNeg) C hM rfl rfl rfl (inI (by omega) (by show _ < (1860 : Int); omega)) (congrFun (hF.gB 17 (by decide)) xv28.toNatClampNeg) dX12_lay_90 ?_
            refine lv_topl (fun lv31 elv31 => ?_)
            refine W.lcmp hx hb dX12_lay_91 ?_
            refine lv_topi (fun xv32 exv32 => ?_)
            refine lv_if_eq (tgt := 97) hx hb dX12_lay_92 (by decide) (fun cv33 => ?_) (fun cv33 => ?_)
            · have tcv33 := eqT cv33
              refine lv_aload_n hx hb dX12_lay_97 rfl (lv_at hl 2 rfl) ?_
              refine rr_getA (k := 39) (j := 18) C hM f_X12_74 rfl rfl dX12_lay_98 ?_
              refine lv_bipush (v := 12) hx hb dX12_lay_101 (by decide) ?_
              refine lv_iload_n hx hb dX12_lay_103 rfl (lv_at hl 3 rfl) ?_
              refine lv_imul hx hb dX12_lay_104 ?_
              refine lv_topi (fun xv34 exv34 => ?_)
              try (have txv34 := mulD (a := i0) (k := 12) (n := 12) (by decide) (by omega) (by omega); rw [← exv34] at txv34)
              refine lv_iload hx hb dX12_lay_105 (lv_at hl 11 rfl) ?_
              refine lv_iadd hx hb dX12_lay_107 ?_
              refine lv_topi (fun xv35 exv35 => ?_)
              try (have txv35 := addI (a := xv34) (b := kz) (by omega) (by omega); rw [← exv35] at txv35)
              refine lv_aload_n hx hb dX12_lay_108 rfl (lv_at hl 2 rfl) ?_
              refine rr_getA (k := 17) (j := 9) C hM f_X12_42 rfl rfl dX12_lay_109 ?_
              refine lv_iload hx hb dX12_lay_112 (lv_at hl 1 rfl) ?_
              refine rr_ldJ (j := 9) (k := 17) (n := 1860) (v := lv30) C hM rfl rfl rfl (inI (by omega) (by show _ < (1860 : Int); omega)) ((congrFun (hF.gB 17 (by decide)) xv23.toNatClampNeg).trans elv30.symm) dX12_lay_114 ?_
              refine rr_stJ (j := 18) (k := 39) (n := 252) (i := xv35) (x := (lv30 : Int64)) C hM rfl rfl rfl (inI (by omega) (by show _ < (252 : Int); omega)) dX12_lay_115 (fun H locs hM => ?_)
              have hM : mH D H0 (rM h0 (uB Ra 39 xv35.toNatClampNeg (lv30 : Int64))) kc ns H locs := hM
              have hF : fr [39, 40, 41, 42, 43, 44] R (uB Ra 39 xv35.toNatClampNeg (lv30 : Int64)) := hF.B (by decide)
              have hI : RI (uB Ra 39 xv35.toNatClampNeg (lv30 : Int64)) := hI.fr (L := [39]) (fr.rf.B (by decide)) (by decide)
              refine lv_aload_n hx hb dX12_lay_116 rfl (lv_at hl 2 rfl) ?_
              refine rr_getA (k := 40) (j := 19) C hM f_X12_77 rfl rfl dX12_lay_117 ?_
              refine lv_bipush (v := 12) hx hb dX12_lay_120 (by decide) ?_
              refine lv_iload_n hx hb dX12_lay_122 rfl (lv_at hl 3 rfl) ?_
              refine lv_imul hx hb dX12_lay_123 ?_
              rw [← exv34]
              refine lv_iload hx hb dX12_lay_124 (lv_at hl 11 rfl) ?_
              refine lv_iadd hx hb dX12_lay_126 ?_
              rw [← exv35]
              refine lv_aload_n hx hb dX12_lay_127 rfl (lv_at hl 2 rfl) ?_
              refine rr_getA (k := 13) (j := 5) C hM f_X12_30 rfl rfl dX12_lay_128 ?_
              refine lv_iload hx hb dX12_lay_131 (lv_at hl 1 rfl) ?_
              refine rr_ldI (j := 5) (k := 13) (n := 1860) (v := rA R 13 xv23.toNatClampNeg) C hM rfl rfl rfl (inI (by omega) (by show _ < (1860 : Int); omega)) (congrFun (hF.gA 13 (by decide)) xv23.toNatClampNeg) dX12_lay_133 ?_
              refine lv_topi (fun xv36 exv36 => ?_)
              refine rr_stI (j := 19) (k := 40) (n := 252) (i := xv35) (x := xv36) C hM rfl rfl rfl (inI (by omega) (by show _ < (252 : Int); omega)) dX12_lay_134 (fun H locs hM => ?_)
              have hM : mH D H0 (rM h0 (uA (uB Ra 39 xv35.toNatClampNeg (lv30 : Int64)) 40 xv35.toNatClampNeg xv36)) kc ns H locs := hM
              have hF : fr [39, 40, 41, 42, 43, 44] R (uA (uB Ra 39 xv35.toNatClampNeg (lv30 : Int64)) 40 xv35.toNatClampNeg xv36) := hF.A (by decide)
              have hI : RI (uA (uB Ra 39 xv35.toNatClampNeg (lv30 : Int64)) 40 xv35.toNatClampNeg xv36) := hI.fr (L := [40]) (fr.rf.A (by decide)) (by decide)
              have join259 : ∀ (ny : Int32) (Rj : RS) (H : Heap) (locs : List Loc) (ls : Array Slot), (fr [39, 40, 41, 42, 43, 44] R Rj) → (RI Rj) → lv_has ls 12 [(0, .ref h0), (1, .int i0), (2, .int i1), (3, .int i2), (4, .int i3), (5, .int xv7), (6, .int pz), (7, .int qz), (8, .int ny), (9, .int kz), (10, .int xv23), (11, .int xv28)] → mH D H0 (rM h0 Rj) kc ns H locs → W p l e ({ frames := 1, cells := 0, slots := 0, locals := 21 } : Room) s m args below meth c H locs 0 0 (MQ below (mQ D H0 gI (fun r S1 k1 n1 => kc = k1 ∧ ns = n1 ∧ ∃ R1, S1 = rM h0 R1 ∧ fr [39, 40, 41, 42, 43, 44] R R1 ∧ RI R1 ∧ (r = 0 ∨ r = 1))) args s 0 0 (mF H0)) (F0 m 259 ls []) := by
                intro ny Rj H locs ls h259_0 h259_1 hl hM
                have hF := h259_0
                have hI := h259_1
                refine lv_aload_n hx hb dX12_lay_259 rfl (lv_at hl 0 rfl) ?_
                refine rr_getA (k := 11) (j := 3) C hM f_X12_24 rfl rfl dX12_lay_260 ?_
                refine lv_iload hx hb dX12_lay_263 (lv_at hl 10 rfl) ?_
                refine rr_ldI (j := 3) (k := 11) (n := 1860) (v := rA R 11 xv23.toNatClampNeg) C hM rfl rfl rfl (inI (by omega) (by show _ < (1860 : Int); omega)) (congrFun (hF.gA 11 (by decide)) xv23.toNatClampNeg) dX12_lay_265 ?_
                refine lv_topi (fun xv37 exv37 => ?_)
                try (have fxv37 := PG.at11 hI0 (g := i1) (p := pz) (x := xv23) (by omega) (by omega) (by omega) (by omega) (by omega); rw [← exv37] at fxv37)
                have fuxv37 := PG.up hI0 (g := i1) (p := pz) (x := xv23) (by omega) (by omega) (by omega) (by omega) (by omega); rw [← exv37] at fuxv37
                refine lv_istore (lv' := [(6, .int xv37), (0, .ref h0), (1, .int i0), (2, .int i1), (3, .int i2), (4, .int i3), (5, .int xv7), (7, .int qz), (8, .int ny), (9, .int kz), (10, .int xv23), (11, .int xv28)]) hx hb dX12_lay_266 hl (by decide) rfl (fun ls hl => ?_)
                refine lv_aload_n hx hb dX12_lay_268 rfl (lv_at hl 1 rfl) ?_
                refine rr_getA (k := 11) (j := 3) C hM f_X12_24 rfl rfl dX12_lay_269 ?_
                refine lv_iload hx hb dX12_lay_272 (lv_at hl 11 rfl) ?_
                refine rr_ldI (j := 3) (k := 11) (n := 1860) (v := rA R 11 xv28.toNatClampNeg) C hM rfl rfl rfl (inI (by omega) (by show _ < (1860 : Int); omega)) (congrFun (hF.gA 11 (by decide)) xv28.toNatClampNeg) dX12_lay_274 ?_
                refine lv_topi (fun xv38 exv38 => ?_)
                try (have fxv38 := PG.at11 hI0 (g := i1) (p := qz) (x := xv28) (by omega) (by omega) (by omega) (by omega) (by omega); rw [← exv38] at fxv38)
                have fuxv38 := PG.up hI0 (g := i1) (p := qz) (x := xv28) (by omega) (by omega) (by omega) (by omega) (by omega); rw [← exv38] at fuxv38
                refine lv_istore (lv' := [(7, .int xv38), (6, .int xv37), (0, .ref h0), (1, .int i0), (2, .int i1), (3, .int i2), (4, .int i3), (5, .int xv7), (8, .int ny), (9, .int kz), (10, .int xv23), (11, .int xv28)]) hx hb dX12_lay_275 hl (by decide) rfl (fun ls hl => ?_)
                obtain ⟨xv39, exv39⟩ : ∃ y : Int32, y = kz + (-1) := ⟨_, rfl⟩
                try (have txv39 := addI (a := kz) (b := (-1)) (by omega) (by omega); rw [← exv39] at txv39)
                refine lv_iinc (v := xv39) (lv' := [(9, .int xv39), (7, .int xv38), (6, .int xv37), (0, .ref h0), (1, .int i0), (2, .int i1), (3, .int i2), (4, .int i3), (5, .int xv7), (8, .int ny), (10, .int xv23), (11, .int xv28)]) hx hb dX12_lay_277 hl (k := 9) rfl (by rw [exv39]; rfl) (by decide) rfl (fun ls hl => ?_)
                refine lv_goto (tgt := 56) hx hb dX12_lay_280 (by decide) ?_
                exact ih56 xv39 ny xv38 xv37 Rj _ _ _ (hF) (hI) (by omega) (by omega) (by omega) (by omega) (lv_sub hl [3, 4, 5, 6, 7, 8, 2, 1, 9, 0] rfl) hM
              refine lv_aload_n hx hb dX12_lay_135 rfl (lv_at hl 2 rfl) ?_
              refine rr_getA (k := 13) (j := 5) C hM f_X12_30 rfl rfl dX12_lay_136 ?_
              refine lv_iload hx hb dX12_lay_139 (lv_at hl 1 rfl) ?_
              refine rr_ldI (j := 5) (k := 13) (n := 1860) (v := xv36) C hM rfl rfl rfl (inI (by omega) (by show _ < (1860 : Int); omega)) ((congrFun (hF.gA 13 (by decide)) xv23.toNatClampNeg).trans exv36.symm) dX12_lay_141 ?_
              refine lv_aload_n hx hb dX12_lay_142 rfl (lv_at hl 2 rfl) ?_
              refine rr_getA (k := 13) (j := 5) C hM f_X12_30 rfl rfl dX12_lay_143 ?_
              refine lv_iload hx hb dX12_lay_146 (lv_at hl 0 rfl) ?_
              refine rr_ldI (j := 5) (k := 13) (n := 1860) (v := rA R 13 xv28.toNatClampNeg) C hM rfl rfl rfl (inI (by omega) (by show _ < (1860 : Int); omega)) (congrFun (hF.gA 13 (by decide)) xv28.toNatClampNeg) dX12_lay_148 ?_
              refine lv_topi (fun xv40 exv40 => ?_)
              refine lv_icmp_eq (tgt := 259) hx hb dX12_lay_149 (by decide) (fun cv41 => ?_) (fun cv41 => ?_)
              · have tcv41 := eqT cv41
                exact join259 nz (uA (uB Ra 39 xv35.toNatClampNeg (lv30 : Int64)) 40 xv35.toNatClampNeg xv36) _ _ _ (hF) (hI) (lv_sub hl [2, 3, 4, 5, 6, 7, 8, 9, 10, 11, 1, 0] rfl) hM
              · have tcv41 := eqF cv41
                obtain ⟨xv42, exv42⟩ : ∃ y : Int32, y = nz + 1 := ⟨_, rfl⟩
                try (have txv42 := addI (a := nz) (b := 1) (by omega) (by omega); rw [← exv42] at txv42)
                refine lv_iinc (v := xv42) (lv' := [(8, .int xv42), (11, .int xv28), (10, .int xv23), (0, .ref h0), (1, .int i0), (2, .int i1), (3, .int i2), (4, .int i3), (5, .int xv7), (6, .int pz), (7, .int qz), (9, .int kz)]) hx hb dX12_lay_152 hl (k := 10) rfl (by rw [exv42]; rfl) (by decide) rfl (fun ls hl => ?_)
                refine lv_aload_n hx hb dX12_lay_155 rfl (lv_at hl 3 rfl) ?_
                refine rr_getA (k := 42) (j := 21) C hM f_X12_83 rfl rfl dX12_lay_156 ?_
                refine lv_iload_n hx hb dX12_lay_159 rfl (lv_at hl 4 rfl) ?_
                refine lv_iload hx hb dX12_lay_160 (lv_at hl 11 rfl) ?_
                refine rr_stI (j := 21) (k := 42) (n := 21) (i := i0) (x := kz) C hM rfl rfl rfl (inI (by omega) (by show _ < (21 : Int); omega)) dX12_lay_162 (fun H locs hM => ?_)
                have hM : mH D H0 (rM h0 (uA (uA (uB Ra 39 xv35.toNatClampNeg (lv30 : Int64)) 40 xv35.toNatClampNeg xv36) 42 i0.toNatClampNeg kz)) kc ns H locs := hM
                have hF : fr [39, 40, 41, 42, 43, 44] R (uA (uA (uB Ra 39 xv35.toNatClampNeg (lv30 : Int64)) 40 xv35.toNatClampNeg xv36) 42 i0.toNatClampNeg kz) := hF.A (by decide)
                have hI : RI (uA (uA (uB Ra 39 xv35.toNatClampNeg (lv30 : Int64)) 40 xv35.toNatClampNeg xv36) 42 i0.toNatClampNeg kz) := hI.fr (L := [42]) (fr.rf.A (by decide)) (by decide)
                refine lv_aload_n hx hb dX12_lay_163 rfl (lv_at hl 3 rfl) ?_
                refine rr_getA (k := 43) (j := 22) C hM f_X12_86 rfl rfl dX12_lay_164 ?_
                refine lv_iload_n hx hb dX12_lay_167 rfl (lv_at hl 4 rfl) ?_
                refine lv_aload_n hx hb dX12_lay_168 rfl (lv_at hl 3 rfl) ?_
                refine rr_getA (k := 13) (j := 5) C hM f_X12_30 rfl rfl dX12_lay_169 ?_
                refine lv_iload hx hb dX12_lay_172 (lv_at hl 2 rfl) ?_
                refine rr_ldI (j := 5) (k := 13) (n := 1860) (v := xv36) C hM rfl rfl rfl (inI (by omega) (by show _ < (1860 : Int); omega)) ((congrFun (hF.gA 13 (by decide)) xv23.toNatClampNeg).trans exv36.symm) dX12_lay_174 ?_
                refine lv_aload_n hx hb dX12_lay_175 rfl (lv_at hl 3 rfl) ?_
                refine rr_getA (k := 13) (j := 5) C hM f_X12_30 rfl rfl dX12_lay_176 ?_
                refine lv_iload hx hb dX12_lay_179 (lv_at hl 1 rfl) ?_
                refine rr_ldI (j := 5) (k := 13) (n := 1860) (v := xv40) C hM rfl rfl rfl (inI (by omega) (by show _ < (1860 : Int); omega)) ((congrFun (hF.gA 13 (by decide)) xv28.toNatClampNeg).trans exv40.symm) dX12_lay_181 ?_
                refine lv_icmp_ge (tgt := 195) hx hb dX12_lay_182 (by decide) (fun cv43 => ?_) (fun cv43 => ?_)
                · have tcv43 := leT cv43
                  refine lv_aload_n hx hb dX12_lay_195 rfl (lv_at hl 3 rfl) ?_
                  refine rr_getA (k := 13) (j := 5) C hM f_X12_30 rfl rfl dX12_lay_196 ?_
                  refine lv_iload hx hb dX12_lay_199 (lv_at hl 1 rfl) ?_
                  refine rr_ldI (j := 5) (k := 13) (n := 1860) (v := xv40) C hM rfl rfl rfl (inI (by omega) (by show _ < (1860 : Int); omega)) ((congrFun (hF.gA 13 (by decide)) xv28.toNatClampNeg).trans exv40.symm) dX12_lay_201 ?_
                  refine rr_stI (j := 22) (k := 43) (n := 21) (i := i0) (x := xv40) C hM rfl rfl rfl (inI (by omega) (by show _ < (21 : Int); omega)) dX12_lay_202 (fun H locs hM => ?_)
                  have hM : mH D H0 (rM h0 (uA (uA (uA (uB Ra 39 xv35.toNatClampNeg (lv30 : Int64)) 40 xv35.toNatClampNeg xv36) 42 i0.toNatClampNeg kz) 43 i0.toNatClampNeg xv40)) kc ns H locs := hM
                  have hF : fr [39, 40, 41, 42, 43, 44] R (uA (uA (uA (uB Ra 39 xv35.toNatClampNeg (lv30 : Int64)) 40 xv35.toNatClampNeg xv36) 42 i0.toNatClampNeg kz) 43 i0.toNatClampNeg xv40) := hF.A (by decide)
                  have hI : RI (uA (uA (uA (uB Ra 39 xv35.toNatClampNeg (lv30 : Int64)) 40 xv35.toNatClampNeg xv36) 42 i0.toNatClampNeg kz) 43 i0.toNatClampNeg xv40) := hI.fr (L := [43]) (fr.rf.A (by decide)) (by decide)
                  refine lv_aload_n hx hb dX12_lay_203 rfl (lv_at hl 3 rfl) ?_
                  refine rr_getA (k := 44) (j := 23) C hM f_X12_89 rfl rfl dX12_lay_204 ?_
                  refine lv_iload_n hx hb dX12_lay_207 rfl (lv_at hl 4 rfl) ?_
                  refine lv_aload_n hx hb dX12_lay_208 rfl (lv_at hl 3 rfl) ?_
                  refine rr_getA (k := 13) (j := 5) C hM f_X12_30 rfl rfl dX12_lay_209 ?_
                  refine lv_iload hx hb dX12_lay_212 (lv_at hl 2 rfl) ?_
                  refine rr_ldI (j := 5) (k := 13) (n := 1860) (v := xv36) C hM rfl rfl rfl (inI (by omega) (by show _ < (1860 : Int); omega)) ((congrFun (hF.gA 13 (by decide)) xv23.toNatClampNeg).trans exv36.symm) dX12_lay_214 ?_
                  refine lv_aload_n hx hb dX12_lay_215 rfl (lv_at hl 3 rfl) ?_
                  refine rr_getA (k := 13) (j := 5) C hM f_X12_30 rfl rfl dX12_lay_216 ?_
                  refine lv_iload hx hb dX12_lay_219 (lv_at hl 1 rfl) ?_
                  refine rr_ldI (j := 5) (k := 13) (n := 1860) (v := xv40) C hM rfl rfl rfl (inI (by omega) (by show _ < (1860 : Int); omega)) ((congrFun (hF.gA 13 (by decide)) xv28.toNatClampNeg).trans exv40.symm) dX12_lay_221 ?_
                  refine lv_icmp_ge (tgt := 243) hx hb dX12_lay_222 (by decide) (fun cv44 => ?_) (fun cv44 => ?_)
                  · have tcv44 := leT cv44
                    refine lv_aload_n hx hb dX12_lay_243 rfl (lv_at hl 3 rfl) ?_
                    refine rr_getA (k := 13) (j := 5) C hM f_X12_30 rfl rfl dX12_lay_244 ?_
                    refine lv_iload hx hb dX12_lay_247 (lv_at hl 2 rfl) ?_
                    refine rr_ldI (j := 5) (k := 13) (n := 1860) (v := xv36) C hM rfl rfl rfl (inI (by omega) (by show _ < (1860 : Int); omega)) ((congrFun (hF.gA 13 (by decide)) xv23.toNatClampNeg).trans exv36.symm) dX12_lay_249 ?_
                    refine lv_aload_n hx hb dX12_lay_250 rfl (lv_at hl 3 rfl) ?_
                    refine rr_getA (k := 13) (j := 5) C hM f_X12_30 rfl rfl dX12_lay_251 ?_
                    refine lv_iload hx hb dX12_lay_254 (lv_at hl 1 rfl) ?_
                    refine rr_ldI (j := 5) (k := 13) (n := 1860) (v := xv40) C hM rfl rfl rfl (inI (by omega) (by show _ < (1860 : Int); omega)) ((congrFun (hF.gA 13 (by decide)) xv28.toNatClampNeg).trans exv40.symm) dX12_lay_256 ?_
                    refine lv_isub hx hb dX12_lay_257 ?_
                    refine lv_topi (fun xv45 exv45 => ?_)
                    try (have txv45 := subI (a := xv36) (b := xv40) (by omega) (by omega); rw [← exv45] at txv45)
                    refine rr_stI (j := 23) (k := 44) (n := 21) (i := i0) (x := xv45) C hM rfl rfl rfl (inI (by omega) (by show _ < (21 : Int); omega)) dX12_lay_258 (fun H locs hM => ?_)
                    have hM : mH D H0 (rM h0 (uA (uA (uA (uA (uB Ra 39 xv35.toNatClampNeg (lv30 : Int64)) 40 xv35.toNatClampNeg xv36) 42 i0.toNatClampNeg kz) 43 i0.toNatClampNeg xv40) 44 i0.toNatClampNeg xv45)) kc ns H locs := hM
                    have hF : fr [39, 40, 41, 42, 43, 44] R (uA (uA (uA (uA (uB Ra 39 xv35.toNatClampNeg (lv30 : Int64)) 40 xv35.toNatClampNeg xv36) 42 i0.toNatClampNeg kz) 43 i0.toNatClampNeg xv40) 44 i0.toNatClampNeg xv45) := hF.A (by decide)
                    have hI : RI (uA (uA (uA (uA (uB Ra 39 xv35.toNatClampNeg (lv30 : Int64)) 40 xv35.toNatClampNeg xv36) 42 i0.toNatClampNeg kz) 43 i0.toNatClampNeg xv40) 44 i0.toNatClampNeg xv45) := hI.fr (L := [44]) (fr.rf.A (by decide)) (by decide)
                    exact join259 xv42 (uA (uA (uA (uA (uB Ra 39 xv35.toNatClampNeg (lv30 : Int64)) 40 xv35.toNatClampNeg xv36) 42 i0.toNatClampNeg kz) 43 i0.toNatClampNeg xv40) 44 i0.toNatClampNeg xv45) _ _ _ (hF) (hI) (lv_sub hl [3, 4, 5, 6, 7, 8, 9, 10, 0, 11, 2, 1] rfl) hM
                  · have tcv44 := leF cv44
                    refine lv_aload_n hx hb dX12_lay_225 rfl (lv_at hl 3 rfl) ?_
                    refine rr_getA (k := 13) (j := 5) C hM f_X12_30 rfl rfl dX12_lay_226 ?_
                    refine lv_iload hx hb dX12_lay_229 (lv_at hl 1 rfl) ?_
                    refine rr_ldI (j := 5) (k := 13) (n := 1860) (v := xv40) C hM rfl rfl rfl (inI (by omega) (by show _ < (1860 : Int); omega)) ((congrFun (hF.gA 13 (by decide)) xv28.toNatClampNeg).trans exv40.symm) dX12_lay_231 ?_
                    refine lv_aload_n hx hb dX12_lay_232 rfl (lv_at hl 3 rfl) ?_
                    refine rr_getA (k := 13) (j := 5) C hM f_X12_30 rfl rfl dX12_lay_233 ?_
                    refine lv_iload hx hb dX12_lay_236 (lv_at hl 2 rfl) ?_
                    refine rr_ldI (j := 5) (k := 13) (n := 1860) (v := xv36) C hM rfl rfl rfl (inI (by omega) (by show _ < (1860 : Int); omega)) ((congrFun (hF.gA 13 (by decide)) xv23.toNatClampNeg).trans exv36.symm) dX12_lay_238 ?_
                    refine lv_isub hx hb dX12_lay_239 ?_
                    refine lv_topi (fun xv46 exv46 => ?_)
                    try (have txv46 := subI (a := xv40) (b := xv36) (by omega) (by omega); rw [← exv46] at txv46)
                    refine lv_goto (tgt := 258) hx hb dX12_lay_240 (by decide) ?_
                    refine rr_stI (j := 23) (k := 44) (n := 21) (i := i0) (x := xv46) C hM rfl rfl rfl (inI (by omega) (by show _ < (21 : Int); omega)) dX12_lay_258 (fun H locs hM => ?_)
                    have hM : mH D H0 (rM h0 (uA (uA (uA (uA (uB Ra 39 xv35.toNatClampNeg (lv30 : Int64)) 40 xv35.toNatClampNeg xv36) 42 i0.toNatClampNeg kz) 43 i0.toNatClampNeg xv40) 44 i0.toNatClampNeg xv46)) kc ns H locs := hM
                    have hF : fr [39, 40, 41, 42, 43, 44] R (uA (uA (uA (uA (uB Ra 39 xv35.toNatClampNeg (lv30 : Int64)) 40 xv35.toNatClampNeg xv36) 42 i0.toNatClampNeg kz) 43 i0.toNatClampNeg xv40) 44 i0.toNatClampNeg xv46) := hF.A (by decide)
                    have hI : RI (uA (uA (uA (uA (uB Ra 39 xv35.toNatClampNeg (lv30 : Int64)) 40 xv35.toNatClampNeg xv36) 42 i0.toNatClampNeg kz) 43 i0.toNatClampNeg xv40) 44 i0.toNatClampNeg xv46) := hI.fr (L := [44]) (fr.rf.A (by decide)) (by decide)
                    exact join259 xv42 (uA (uA (uA (uA (uB Ra 39 xv35.toNatClampNeg (lv30 : Int64)) 40 xv35.toNatClampNeg xv36) 42 i0.toNatClampNeg kz) 43 i0.toNatClampNeg xv40) 44 i0.toNatClampNeg xv46) _ _ _ (hF) (hI) (lv_sub hl [3, 4, 5, 6, 7, 8, 9, 10, 0, 11, 2, 1] rfl) hM
                · have tcv43 := leF cv43
                  refine lv_aload_n hx hb dX12_lay_185 rfl (lv_at hl 3 rfl) ?_
                  refine rr_getA (k := 13) (j := 5) C hM f_X12_30 rfl rfl dX12_lay_186 ?_
                  refine lv_iload hx hb dX12_lay_189 (lv_at hl 2 rfl) ?_
                  refine rr_ldI (j := 5) (k := 13) (n := 1860) (v := xv36) C hM rfl rfl rfl (inI (by omega) (by show _ < (1860 : Int); omega)) ((congrFun (hF.gA 13 (by decide)) xv23.toNatClampNeg).trans exv36.symm) dX12_lay_191 ?_
                  refine lv_goto (tgt := 202) hx hb dX12_lay_192 (by decide) ?_
                  refine rr_stI (j := 22) (k := 43) (n := 21) (i := i0) (x := xv36) C hM rfl rfl rfl (inI (by omega) (by show _ < (21 : Int); omega)) dX12_lay_202 (fun H locs hM => ?_)
                  have hM : mH D H0 (rM h0 (uA (uA (uA (uB Ra 39 xv35.toNatClampNeg (lv30 : Int64)) 40 xv35.toNatClampNeg xv36) 42 i0.toNatClampNeg kz) 43 i0.toNatClampNeg xv36)) kc ns H locs := hM
                  have hF : fr [39, 40, 41, 42, 43, 44] R (uA (uA (uA (uB Ra 39 xv35.toNatClampNeg (lv30 : Int64)) 40 xv35.toNatClampNeg xv36) 42 i0.toNatClampNeg kz) 43 i0.toNatClampNeg xv36) := hF.A (by decide)
                  have hI : RI (uA (uA (uA (uB Ra 39 xv35.toNatClampNeg (lv30 : Int64)) 40 xv35.toNatClampNeg xv36) 42 i0.toNatClampNeg kz) 43 i0.toNatClampNeg xv36) := hI.fr (L := [43]) (fr.rf.A (by decide)) (by decide)
                  refine lv_aload_n hx hb dX12_lay_203 rfl (lv_at hl 3 rfl) ?_
                  refine rr_getA (k := 44) (j := 23) C hM f_X12_89 rfl rfl dX12_lay_204 ?_
                  refine lv_iload_n hx hb dX12_lay_207 rfl (lv_at hl 4 rfl) ?_
                  refine lv_aload_n hx hb dX12_lay_208 rfl (lv_at hl 3 rfl) ?_
                  refine rr_getA (k := 13) (j := 5) C hM f_X12_30 rfl rfl dX12_lay_209 ?_
                  refine lv_iload hx hb dX12_lay_212 (lv_at hl 2 rfl) ?_
                  refine rr_ldI (j := 5) (k := 13) (n := 1860) (v := xv36) C hM rfl rfl rfl (inI (by omega) (by show _ < (1860 : Int); omega)) ((congrFun (hF.gA 13 (by decide)) xv23.toNatClampNeg).trans exv36.symm) dX12_lay_214 ?_
                  refine lv_aload_n hx hb dX12_lay_215 rfl (lv_at hl 3 rfl) ?_
                  refine rr_getA (k := 13) (j := 5) C hM f_X12_30 rfl rfl dX12_lay_216 ?_
                  refine lv_iload hx hb dX12_lay_219 (lv_at hl 1 rfl) ?_
                  refine rr_ldI (j := 5) (k := 13) (n := 1860) (v := xv40) C hM rfl rfl rfl (inI (by omega) (by show _ < (1860 : Int); omega)) ((congrFun (hF.gA 13 (by decide)) xv28.toNatClampNeg).trans exv40.symm) dX12_lay_221 ?_
                  refine lv_icmp_ge (tgt := 243) hx hb dX12_lay_222 (by decide) (fun cv47 => ?_) (fun cv47 => ?_)
                  · have tcv47 := leT cv47
                    refine lv_aload_n hx hb dX12_lay_243 rfl (lv_at hl 3 rfl) ?_
                    refine rr_getA (k := 13) (j := 5) C hM f_X12_30 rfl rfl dX12_lay_244 ?_
                    refine lv_iload hx hb dX12_lay_247 (lv_at hl 2 rfl) ?_
                    refine rr_ldI (j := 5) (k := 13) (n := 1860) (v := xv36) C hM rfl rfl rfl (inI (by omega) (by show _ < (1860 : Int); omega)) ((congrFun (hF.gA 13 (by decide)) xv23.toNatClampNeg).trans exv36.symm) dX12_lay_249 ?_
                    refine lv_aload_n hx hb dX12_lay_250 rfl (lv_at hl 3 rfl) ?_
                    refine rr_getA (k := 13) (j := 5) C hM f_X12_30 rfl rfl dX12_lay_251 ?_
                    refine lv_iload hx hb dX12_lay_254 (lv_at hl 1 rfl) ?_
                    refine rr_ldI (j := 5) (k := 13) (n := 1860) (v := xv40) C hM rfl rfl rfl (inI (by omega) (by show _ < (1860 : Int); omega)) ((congrFun (hF.gA 13 (by decide)) xv28.toNatClampNeg).trans exv40.symm) dX12_lay_256 ?_
                    refine lv_isub hx hb dX12_lay_257 ?_
                    refine lv_topi (fun xv48 exv48 => ?_)
                    try (have txv48 := subI (a := xv36) (b := xv40) (by omega) (by omega); rw [← exv48] at txv48)
                    refine rr_stI (j := 23) (k := 44) (n := 21) (i := i0) (x := xv48) C hM rfl rfl rfl (inI (by omega) (by show _ < (21 : Int); omega)) dX12_lay_258 (fun H locs hM => ?_)
                    have hM : mH D H0 (rM h0 (uA (uA (uA (uA (uB Ra 39 xv35.toNatClampNeg (lv30 : Int64)) 40 xv35.toNatClampNeg xv36) 42 i0.toNatClampNeg kz) 43 i0.toNatClampNeg xv36) 44 i0.toNatClampNeg xv48)) kc ns H locs := hM
                    have hF : fr [39, 40, 41, 42, 43, 44] R (uA (uA (uA (uA (uB Ra 39 xv35.toNatClampNeg (lv30 : Int64)) 40 xv35.toNatClampNeg xv36) 42 i0.toNatClampNeg kz) 43 i0.toNatClampNeg xv36) 44 i0.toNatClampNeg xv48) := hF.A (by decide)
                    have hI : RI (uA (uA (uA (uA (uB Ra 39 xv35.toNatClampNeg (lv30 : Int64)) 40 xv35.toNatClampNeg xv36) 42 i0.toNatClampNeg kz) 43 i0.toNatClampNeg xv36) 44 i0.toNatClampNeg xv48) := hI.fr (L := [44]) (fr.rf.A (by decide)) (by decide)
                    exact join259 xv42 (uA (uA (uA (uA (uB Ra 39 xv35.toNatClampNeg (lv30 : Int64)) 40 xv35.toNatClampNeg xv36) 42 i0.toNatClampNeg kz) 43 i0.toNatClampNeg xv36) 44 i0.toNatClampNeg xv48) _ _ _ (hF) (hI) (lv_sub hl [3, 4, 5, 6, 7, 8, 9, 10, 0, 11, 2, 1] rfl) hM
                  · have tcv47 := leF cv47
                    refine lv_aload_n hx hb dX12_lay_225 rfl (lv_at hl 3 rfl) ?_
                    refine rr_getA (k := 13) (j := 5) C hM f_X12_30 rfl rfl dX12_lay_226 ?_
                    refine lv_iload hx hb dX12_lay_229 (lv_at hl 1 rfl) ?_
                    refine rr_ldI (j := 5) (k := 13) (n := 1860) (v := xv40) C hM rfl rfl rfl (inI (by omega) (by show _ < (1860 : Int); omega)) ((congrFun (hF.gA 13 (by decide)) xv28.toNatClampNeg).trans exv40.symm) dX12_lay_231 ?_
                    refine lv_aload_n hx hb dX12_lay_232 rfl (lv_at hl 3 rfl) ?_
                    refine rr_getA (k := 13) (j := 5) C hM f_X12_30 rfl rfl dX12_lay_233 ?_
                    refine lv_iload hx hb dX12_lay_236 (lv_at hl 2 rfl) ?_
                    refine rr_ldI (j := 5) (k := 13) (n := 1860) (v := xv36) C hM rfl rfl rfl (inI (by omega) (by show _ < (1860 : Int); omega)) ((congrFun (hF.gA 13 (by decide)) xv23.toNatClampNeg).trans exv36.symm) dX12_lay_238 ?_
                    refine lv_isub hx hb dX12_lay_239 ?_
                    refine lv_topi (fun xv49 exv49 => ?_)
                    try (have txv49 := subI (a := xv40) (b := xv36) (by omega) (by omega); rw [← exv49] at txv49)
                    refine lv_goto (tgt := 258) hx hb dX12_lay_240 (by decide) ?_
                    refine rr_stI (j := 23) (k := 44) (n := 21) (i := i0) (x := xv49) C hM rfl rfl rfl (inI (by omega) (by show _ < (21 : Int); omega)) dX12_lay_258 (fun H locs hM => ?_)
                    have hM : mH D H0 (rM h0 (uA (uA (uA (uA (uB Ra 39 xv35.toNatClampNeg (lv30 : Int64)) 40 xv35.toNatClampNeg xv36) 42 i0.toNatClampNeg kz) 43 i0.toNatClampNeg xv36) 44 i0.toNatClampNeg xv49)) kc ns H locs := hM
                    have hF : fr [39, 40, 41, 42, 43, 44] R (uA (uA (uA (uA (uB Ra 39 xv35.toNatClampNeg (lv30 : Int64)) 40 xv35.toNatClampNeg xv36) 42 i0.toNatClampNeg kz) 43 i0.toNatClampNeg xv36) 44 i0.toNatClampNeg xv49) := hF.A (by decide)
                    have hI : RI (uA (uA (uA (uA (uB Ra 39 xv35.toNatClampNeg (lv30 : Int64)) 40 xv35.toNatClampNeg xv36) 42 i0.toNatClampNeg kz) 43 i0.toNatClampNeg xv36) 44 i0.toNatClampNeg xv49) := hI.fr (L := [44]) (fr.rf.A (by decide)) (by decide)
                    exact join259 xv42 (uA (uA (uA (uA (uB Ra 39 xv35.toNatClampNeg (lv30 : Int64)) 40 xv35.toNatClampNeg xv36) 42 i0.toNatClampNeg kz) 43 i0.toNatClampNeg xv36) 44 i0.toNatClampNeg xv49) _ _ _ (hF) (hI) (lv_sub hl [3, 4, 5, 6, 7, 8, 9, 10, 0, 11, 2, 1] rfl) hM
            · have tcv33 := eqF cv33
              refine lv_iconst (v := 0) hx hb dX12_lay_95 (by decide) ?_
              exact r_retZ C hr hlk rfl hM (⟨rfl, rfl, _, rfl, hF, hI, by decide⟩) dX12_lay_96
      exact loop56 (((xv17.toInt + 1).toNat) + 1) xv17 0 i3 i2 R _ _ _ (hF) (hI) (by omega) (by omega) (by omega) (by omega) (lv_sub hl [5, 6, 7, 8, 9, 4, 3, 2, 1, 0] rfl) hM
    · have tcv16 := eqT cv16
      refine lv_iconst (v := 0) hx hb dX12_lay_38 (by decide) ?_
      exact r_retZ C hr hlk rfl hM (⟨rfl, rfl, _, rfl, hF, hI, by decide⟩) dX12_lay_39
set_option maxHeartbeats 4000000 in
set_option maxRecDepth 100000 in
theorem c_X12_child (l : Launch) (D : gD) (H0 : gB) (h0 : Nat) (R : RS) (kc ns : Nat) (i0 i1 : Int32) (j0 : Int64) (i2 : Int32) (hI : RI R) (g00 : 0 ≤ i0.toInt) (g10 : i0.toInt < 30) (p01 : 0 ≤ i1.toInt) (p11 : i1.toInt < (rA R 10 i0.toNatClampNeg).toInt)  : Met l yX12_child (wsU yX12_child cX12_child 7 (some .int)) ({ frames := 1, cells := 0, slots := 0, locals := 21 } : Room) (mP D H0 (rM h0 R) kc ns [.ref h0, .int i0, .int i1, .long j0, .int i2]) (mQ D H0 gI (fun r S1 k1 n1 => rM h0 R = S1 ∧ kc = k1 ∧ ns = n1 ∧ (r = chV R i0 i1 j0 i2 ∧ (r.toInt = -1 ∨ (0 ≤ r.toInt ∧ r.toInt < (rA R 10 i0.toNatClampNeg).toInt))))) 0 0 (mF H0) := by
  refine r_met (own := RX12) (by decide +kernel) rfl (Nat.le_of_ble_eq_true rfl) ?_
  intro p e s m args below meth c C hr hlk hnm H ls hl hM
  obtain ⟨hx, hb, hml, hown, hts, -, -⟩ := id C
  have hl : lv_has ls 7 [(0, .ref h0), (1, .int i0), (2, .int i1), (3, .long j0), (5, .int i2)] := hl
  have hF : fr [] R R := fr.rf
  have hI0 := hI
  have t_m1 : (-1 : Int32).toInt = -1 := by decide
  have t_0 : (0 : Int32).toInt = 0 := by decide
  have t_1 : (1 : Int32).toInt = 1 := by decide
  have fm0 := RI.many hI i0.toNatClampNeg
  refine lv_iload_n hx hb dX12_child_0 rfl (lv_at hl 2 rfl) ?_
  refine lv_iconst (v := 1) hx hb dX12_child_1 (by decide) ?_
  refine lv_iadd hx hb dX12_child_2 ?_
  refine lv_topi (fun xv1 exv1 => ?_)
  try (have txv1 := addI (a := i1) (b := 1) (by omega) (by omega); rw [← exv1] at txv1)
  refine lv_istore (lv' := [(6, .int xv1), (0, .ref h0), (1, .int i0), (2, .int i1), (3, .long j0), (5, .int i2)]) hx hb dX12_child_3 hl (by decide) rfl (fun ls hl => ?_)
  have fl9 := PGl hI0 g00 g10 p01 p11
  have loop5 : ∀ (fu : Nat) (pz : Int32) (H : Heap) (locs : List Loc) (ls : Array Slot), (i1.toInt < pz.toInt ∧ pz.toInt ≤ i1.toInt + (rA R 12 (60 * i0.toNatClampNeg + i1.toNatClampNeg)).toInt) → (chF R i0 i1 j0 i2 (i1.toInt + (rA R 12 (60 * i0.toNatClampNeg + i1.toNatClampNeg)).toInt - pz.toInt).toNat pz = chV R i0 i1 j0 i2) → (60 - pz.toInt).toNat < fu → lv_has ls 7 [(0, .ref h0), (1, .int i0), (2, .int i1), (3, .long j0), (5, .int i2), (6, .int pz)] → mH D H0 (rM h0 R) kc ns H locs → W p l e ({ frames := 1, cells := 0, slots := 0, locals := 21 } : Room) s m args below meth c H locs 0 0 (MQ below (mQ D H0 gI (fun r S1 k1 n1 => rM h0 R = S1 ∧ kc = k1 ∧ ns = n1 ∧ (r = chV R i0 i1 j0 i2 ∧ (r.toInt = -1 ∨ (0 ≤ r.toInt ∧ r.toInt < (rA R 10 i0.toNatClampNeg).toInt))))) args s 0 0 (mF H0)) (F0 m 5 ls []) := by
    intro fu
    induction fu with
    | zero => intro pz H locs ls h5_0 h5_1 hfu; exact absurd hfu (by omega)
    | succ fu ih5 =>
      intro pz H locs ls h5_0 h5_1 hfu hl hM
      refine lv_iload hx hb dX12_child_5 (lv_at hl 5 rfl) ?_
      refine lv_iload_n hx hb dX12_child_7 rfl (lv_at hl 2 rfl) ?_
      refine lv_aload_n hx hb dX12_child_8 rfl (lv_at hl 0 rfl) ?_
      refine rr_getA (k := 12) (j := 4) C hM f_X12_27 rfl rfl dX12_child_9 ?_
      refine lv_iload_n hx hb dX12_child_12 rfl (lv_at hl 1 rfl) ?_
      refine lv_iload_n hx hb dX12_child_13 rfl (lv_at hl 2 rfl) ?_
      refine r_S (As := [.int i0, .int i1]) (rest := [.ref (h0 + 1 + 4), .int i1, .int pz]) C hM (c_X12_spot l D H0 (rM h0 R) kc ns i0 i1 (by omega) (by omega) (by omega) (by omega)) i_X12_spot m_X12_151 rfl hl.1 rfl (Nat.le_of_ble_eq_true rfl) ⟨by decide, by decide⟩ ⟨by decide, by decide⟩ dX12_child_14 (fun xv5 Sv2 kv3 nv4 H locs pv6 hM => ?_)
      obtain ⟨rfl, rfl, rfl, hxv5⟩ := pv6
      refine W.eq (g2 := F0 m 17 ls [.int xv5, .ref (h0 + 1 + 4), .int i1, .int pz]) rfl ?_
      refine rr_ldI (j := 4) (k := 12) (n := 1860) (v := rA R 12 xv5.toNatClampNeg) C hM rfl rfl rfl (inI (by omega) (by show _ < (1860 : Int); omega)) (congrFun (hF.gA 12 (by decide)) xv5.toNatClampNeg) dX12_child_17 ?_
      refine lv_topi (fun xv7 exv7 => ?_)
      try (have fxv7 := PG.at12 hI0 (g := i0) (p := i1) (x := xv5) (by omega) (by omega) (by omega) (by omega) (by omega); rw [← exv7] at fxv7)
      have flxv7 : (rA R 12 (60 * i0.toNatClampNeg + i1.toNatClampNeg)).toInt = xv7.toInt := by rw [exv7, sp9 (g := i0) (p := i1) (x := xv5) (by omega) (by omega) (by omega)]
      refine lv_iadd hx hb dX12_child_18 ?_
      refine lv_topi (fun xv8 exv8 => ?_)
      try (have txv8 := addI (a := i1) (b := xv7) (by omega) (by omega); rw [← exv8] at txv8)
      refine lv_icmp_ge (tgt := 78) hx hb dX12_child_19 (by decide) (fun cv9 => ?_) (fun cv9 => ?_)
      · have tcv9 := leT cv9
        refine lv_iconst (v := -1) hx hb dX12_child_78 (by decide) ?_
        exact r_retI C hr hlk hM (⟨rfl, rfl, rfl, by rw [show (i1.toInt + (rA R 12 (60 * i0.toNatClampNeg + i1.toNatClampNeg)).toInt - pz.toInt).toNat = 0 by omega] at h5_1; exact h5_1, Or.inl (by decide)⟩) dX12_child_79
      · have tcv9 := leF cv9
        refine lv_aload_n hx hb dX12_child_22 rfl (lv_at hl 0 rfl) ?_
        refine rr_getA (k := 11) (j := 3) C hM f_X12_24 rfl rfl dX12_child_23 ?_
        refine lv_iload_n hx hb dX12_child_26 rfl (lv_at hl 1 rfl) ?_
        refine lv_iload hx hb dX12_child_27 (lv_at hl 5 rfl) ?_
        refine r_S (As := [.int i0, .int pz]) (rest := [.ref (h0 + 1 + 3)]) C hM (c_X12_spot l D H0 (rM h0 R) kc ns i0 pz (by omega) (by omega) (by omega) (by omega)) i_X12_spot m_X12_151 rfl hl.1 rfl (Nat.le_of_ble_eq_true rfl) ⟨by decide, by decide⟩ ⟨by decide, by decide⟩ dX12_child_29 (fun xv13 Sv10 kv11 nv12 H locs pv14 hM => ?_)
        obtain ⟨rfl, rfl, rfl, hxv13⟩ := pv14
        refine W.eq (g2 := F0 m 32 ls [.int xv13, .ref (h0 + 1 + 3)]) rfl ?_
        refine rr_ldI (j := 3) (k := 11) (n := 1860) (v := rA R 11 xv13.toNatClampNeg) C hM rfl rfl rfl (inI (by omega) (by show _ < (1860 : Int); omega)) (congrFun (hF.gA 11 (by decide)) xv13.toNatClampNeg) dX12_child_32 ?_
        refine lv_topi (fun xv15 exv15 => ?_)
        try (have fxv15 := PG.at11 hI0 (g := i0) (p := pz) (x := xv13) (by omega) (by omega) (by omega) (by omega) (by omega); rw [← exv15] at fxv15)
        have fqxv15 : (rA R 11 (60 * i0.toNatClampNeg + pz.toNatClampNeg)).toInt = xv15.toInt := by rw [exv15, sp9 (g := i0) (p := pz) (x := xv13) (by omega) (by omega) (by omega)]
        refine lv_iload_n hx hb dX12_child_33 rfl (lv_at hl 2 rfl) ?_
        refine lv_icmp_ne (tgt := 72) hx hb dX12_child_34 (by decide) (fun cv16 => ?_) (fun cv16 => ?_)
        · have tcv16 := eqF cv16
          obtain ⟨xv17, exv17⟩ : ∃ y : Int32, y = pz + 1 := ⟨_, rfl⟩
          try (have txv17 := addI (a := pz) (b := 1) (by omega) (by omega); rw [← exv17] at txv17)
          refine lv_iinc (v := xv17) (lv' := [(6, .int xv17), (0, .ref h0), (1, .int i0), (2, .int i1), (3, .long j0), (5, .int i2)]) hx hb dX12_child_72 hl (k := 5) rfl (by rw [exv17]; rfl) (by decide) rfl (fun ls hl => ?_)
          refine lv_goto (tgt := 5) hx hb dX12_child_75 (by decide) ?_
          exact ih5 xv17 _ _ _ (by omega) (by rw [show (i1.toInt + (rA R 12 (60 * i0.toNatClampNeg + i1.toNatClampNeg)).toInt - xv17.toInt).toNat = (i1.toInt + (rA R 12 (60 * i0.toNatClampNeg + i1.toNatClampNeg)).toInt - pz.toInt).toNat - 1 by omega, exv17 ]; exact (chF.no (by omega) (by omega)).symm.trans h5_1) (by omega) (lv_sub hl [1, 2, 3, 4, 5, 0] rfl) hM
        · have tcv16 := eqT cv16
          refine lv_aload_n hx hb dX12_child_37 rfl (lv_at hl 0 rfl) ?_
          refine rr_getA (k := 17) (j := 9) C hM f_X12_42 rfl rfl dX12_child_38 ?_
          refine lv_iload_n hx hb dX12_child_41 rfl (lv_at hl 1 rfl) ?_
          refine lv_iload hx hb dX12_child_42 (lv_at hl 5 rfl) ?_
          refine r_S (As := [.int i0, .int pz]) (rest := [.ref (h0 + 1 + 9)]) C hM (c_X12_spot l D H0 (rM h0 R) kc ns i0 pz (by omega) (by omega) (by omega) (by omega)) i_X12_spot m_X12_151 rfl hl.1 rfl (Nat.le_of_ble_eq_true rfl) ⟨by decide, by decide⟩ ⟨by decide, by decide⟩ dX12_child_44 (fun xv21 Sv18 kv19 nv20 H locs pv22 hM => ?_)
          obtain ⟨rfl, rfl, rfl, hxv21⟩ := pv22
          have ee9 : xv13 = xv21 := Int32.toInt_inj.mp (by omega)
          subst ee9
          refine W.eq (g2 := F0 m 47 ls [.int xv13, .ref (h0 + 1 + 9)]) rfl ?_
          refine rr_ldJ (j := 9) (k := 17) (n := 1860) (v := rB R 17 xv13.toNatClampNeg) C hM rfl rfl rfl (inI (by omega) (by show _ < (1860 : Int); omega)) (congrFun (hF.gB 17 (by decide)) xv13.toNatClampNeg) dX12_child_47 ?_
          refine lv_topl (fun lv23 elv23 => ?_)
          have fk9 : rB R 17 (60 * i0.toNatClampNeg + pz.toNatClampNeg) = lv23 := by rw [elv23, sp9 (g := i0) (p := pz) (x := xv13) (by omega) (by omega) (by omega)]
          refine lv_lload_n hx hb dX12_child_48 rfl (lv_at hl 3 rfl) ?_
          refine W.lcmp hx hb dX12_child_49 ?_
          refine lv_topi (fun xv24 exv24 => ?_)
          have fc9 : (lg_cmp (rB R 17 (60 * i0.toNatClampNeg + pz.toNatClampNeg)) j0).toInt = xv24.toInt := by rw [fk9, ← exv24]
          refine lv_if_ne (tgt := 72) hx hb dX12_child_50 (by decide) (fun cv25 => ?_) (fun cv25 => ?_)
          · have tcv25 := eqF cv25
            obtain ⟨xv26, exv26⟩ : ∃ y : Int32, y = pz + 1 := ⟨_, rfl⟩
            try (have txv26 := addI (a := pz) (b := 1) (by omega) (by omega); rw [← exv26] at txv26)
            refine lv_iinc (v := xv26) (lv' := [(6, .int xv26), (0, .ref h0), (1, .int i0), (2, .int i1), (3, .long j0), (5, .int i2)]) hx hb dX12_child_72 hl (k := 5) rfl (by rw [exv26]; rfl) (by decide) rfl (fun ls hl => ?_)
            refine lv_goto (tgt := 5) hx hb dX12_child_75 (by decide) ?_
            exact ih5 xv26 _ _ _ (by omega) (by rw [show (i1.toInt + (rA R 12 (60 * i0.toNatClampNeg + i1.toNatClampNeg)).toInt - xv26.toInt).toNat = (i1.toInt + (rA R 12 (60 * i0.toNatClampNeg + i1.toNatClampNeg)).toInt - pz.toInt).toNat - 1 by omega, exv26 ]; exact (chF.no (by omega) (by omega)).symm.trans h5_1) (by omega) (lv_sub hl [1, 2, 3, 4, 5, 0] rfl) hM
          · have tcv25 := eqT cv25
            refine lv_aload_n hx hb dX12_child_53 rfl (lv_at hl 0 rfl) ?_
            refine rr_getA (k := 13) (j := 5) C hM f_X12_30 rfl rfl dX12_child_54 ?_
            refine lv_iload_n hx hb dX12_child_57 rfl (lv_at hl 1 rfl) ?_
            refine lv_iload hx hb dX12_child_58 (lv_at hl 5 rfl) ?_
            refine r_S (As := [.int i0, .int pz]) (rest := [.ref (h0 + 1 + 5)]) C hM (c_X12_spot l D H0 (rM h0 R) kc ns i0 pz (by omega) (by omega) (by omega) (by omega)) i_X12_spot m_X12_151 rfl hl.1 rfl (Nat.le_of_ble_eq_true rfl) ⟨by decide, by decide⟩ ⟨by decide, by decide⟩ dX12_child_60 (fun xv30 Sv27 kv28 nv29 H locs pv31 hM => ?_)
            obtain ⟨rfl, rfl, rfl, hxv30⟩ := pv31
            have ee9 : xv13 = xv30 := Int32.toInt_inj.mp (by omega)
            subst ee9
            refine W.eq (g2 := F0 m 63 ls [.int xv13, .ref (h0 + 1 + 5)]) rfl ?_
            refine rr_ldI (j := 5) (k := 13) (n := 1860) (v := rA R 13 xv13.toNatClampNeg) C hM rfl rfl rfl (inI (by omega) (by show _ < (1860 : Int); omega)) (congrFun (hF.gA 13 (by decide)) xv13.toNatClampNeg) dX12_child_63 ?_
            refine lv_topi (fun xv32 exv32 => ?_)
            have fqxv32 : (rA R 13 (60 * i0.toNatClampNeg + pz.toNatClampNeg)).toInt = xv32.toInt := by rw [exv32, sp9 (g := i0) (p := pz) (x := xv13) (by omega) (by omega) (by omega)]
            refine lv_iload hx hb dX12_child_64 (lv_at hl 4 rfl) ?_
            refine lv_icmp_ne (tgt := 72) hx hb dX12_child_66 (by decide) (fun cv33 => ?_) (fun cv33 => ?_)
            · have tcv33 := eqF cv33
              obtain ⟨xv34, exv34⟩ : ∃ y : Int32, y = pz + 1 := ⟨_, rfl⟩
              try (have txv34 := addI (a := pz) (b := 1) (by omega) (by omega); rw [← exv34] at txv34)
              refine lv_iinc (v := xv34) (lv' := [(6, .int xv34), (0, .ref h0), (1, .int i0), (2, .int i1), (3, .long j0), (5, .int i2)]) hx hb dX12_child_72 hl (k := 5) rfl (by rw [exv34]; rfl) (by decide) rfl (fun ls hl => ?_)
              refine lv_goto (tgt := 5) hx hb dX12_child_75 (by decide) ?_
              exact ih5 xv34 _ _ _ (by omega) (by rw [show (i1.toInt + (rA R 12 (60 * i0.toNatClampNeg + i1.toNatClampNeg)).toInt - xv34.toInt).toNat = (i1.toInt + (rA R 12 (60 * i0.toNatClampNeg + i1.toNatClampNeg)).toInt - pz.toInt).toNat - 1 by omega, exv34 ]; exact (chF.no (by omega) (by omega)).symm.trans h5_1) (by omega) (lv_sub hl [1, 2, 3, 4, 5, 0] rfl) hM
            · have tcv33 := eqT cv33
              refine lv_iload hx hb dX12_child_69 (lv_at hl 5 rfl) ?_
              exact r_retI C hr hlk hM (⟨rfl, rfl, rfl, (chF.yes (by omega) ⟨by omega, by omega, by omega⟩).symm.trans h5_1, by omega⟩) dX12_child_71
  exact loop5 (((60 - xv1.toInt).toNat) + 1) xv1 _ _ _ (by omega) (by unfold chV; rw [show (i1.toInt + (rA R 12 (60 * i0.toNatClampNeg + i1.toNatClampNeg)).toInt - xv1.toInt).toNat = ((rA R 12 (60 * i0.toNatClampNeg + i1.toNatClampNeg)).toInt - 1).toNat by omega, exv1 ]) (by omega) (lv_sub hl [1, 2, 3, 4, 5, 0] rfl) hM
set_option maxHeartbeats 4000000 in
set_option maxRecDepth 100000 in
theorem c_X12_rowOf (l : Launch) (D : gD) (H0 : gB) (h0 : Nat) (R : RS) (kc ns : Nat) (i0 i1 i2 : Int32) (hI : RI R) (r0 : 0 ≤ i0.toInt) (r1 : i0.toInt ≤ 20) (g01 : 0 ≤ i1.toInt) (g11 : i1.toInt < 30)  : Met l yX12_rowOf (wsU yX12_rowOf cX12_rowOf 8 (some .int)) ({ frames := 2, cells := 0, slots := 0, locals := 47 } : Room) (mP D H0 (rM h0 R) kc ns [.ref h0, .int i0, .int i1, .int i2]) (mQ D H0 gI (fun r S1 k1 n1 => rM h0 R = S1 ∧ kc = k1 ∧ ns = n1 ∧ (r = rwV R i0 i1 i2 ∧ (r.toInt = -1 ∨ (0 ≤ r.toInt ∧ r.toInt < (rA R 10 i1.toNatClampNeg).toInt))))) 0 0 (mF H0) := by
  refine r_met (own := RX12) (by decide +kernel) rfl (Nat.le_of_ble_eq_true rfl) ?_
  intro p e s m args below meth c C hr hlk hnm H ls hl hM
  obtain ⟨hx, hb, hml, hown, hts, -, -⟩ := id C
  have hl : lv_has ls 8 [(0, .ref h0), (1, .int i0), (2, .int i1), (3, .int i2)] := hl
  have hF : fr [] R R := fr.rf
  have hI0 := hI
  have t_m1 : (-1 : Int32).toInt = -1 := by decide
  have t_0 : (0 : Int32).toInt = 0 := by decide
  have t_1 : (1 : Int32).toInt = 1 := by decide
  have t_12 : (12 : Int32).toInt = 12 := by decide
  have fm1 := RI.many hI i1.toNatClampNeg
  refine lv_iconst (v := 0) hx hb dX12_rowOf_0 (by decide) ?_
  refine lv_istore (lv' := [(4, .int 0), (0, .ref h0), (1, .int i0), (2, .int i1), (3, .int i2)]) hx hb dX12_rowOf_1 hl (by decide) rfl (fun ls hl => ?_)
  refine lv_aload_n hx hb dX12_rowOf_3 rfl (lv_at hl 1 rfl) ?_
  refine rr_getA (k := 41) (j := 20) C hM f_X12_80 rfl rfl dX12_rowOf_4 ?_
  refine lv_iload_n hx hb dX12_rowOf_7 rfl (lv_at hl 2 rfl) ?_
  refine rr_ldI (j := 20) (k := 41) (n := 21) (v := rA R 41 i0.toNatClampNeg) C hM rfl rfl rfl (inI (by omega) (by show _ < (21 : Int); omega)) (congrFun (hF.gA 41 (by decide)) i0.toNatClampNeg) dX12_rowOf_8 ?_
  refine lv_topi (fun xv1 exv1 => ?_)
  have mxv1 : xv1.toInt = (rA R 41 i0.toNatClampNeg).toInt := by rw [exv1]
  have fxv1 := RI.pathSize hI0 i0.toNatClampNeg; rw [← exv1] at fxv1
  refine lv_istore (lv' := [(5, .int xv1), (4, .int 0), (0, .ref h0), (1, .int i0), (2, .int i1), (3, .int i2)]) hx hb dX12_rowOf_9 hl (by decide) rfl (fun ls hl => ?_)
  refine lv_aload_n hx hb dX12_rowOf_11 rfl (lv_at hl 2 rfl) ?_
  refine rr_getA (k := 10) (j := 2) C hM f_X12_20 rfl rfl dX12_rowOf_12 ?_
  refine lv_iload_n hx hb dX12_rowOf_15 rfl (lv_at hl 4 rfl) ?_
  refine rr_ldI (j := 2) (k := 10) (n := 31) (v := rA R 10 i1.toNatClampNeg) C hM rfl rfl rfl (inI (by omega) (by show _ < (31 : Int); omega)) (congrFun (hF.gA 10 (by decide)) i1.toNatClampNeg) dX12_rowOf_16 ?_
  refine lv_topi (fun xv2 exv2 => ?_)
  have mxv2 : xv2.toInt = (rA R 10 i1.toNatClampNeg).toInt := by rw [exv2]
  have fxv2 := RI.many hI0 i1.toNatClampNeg; rw [← exv2] at fxv2
  refine lv_if_eq (tgt := 55) hx hb dX12_rowOf_17 (by decide) (fun cv3 => ?_) (fun cv3 => ?_)
  · have tcv3 := eqT cv3
    refine lv_iconst (v := -1) hx hb dX12_rowOf_55 (by decide) ?_
    exact r_retI C hr hlk hM (⟨rfl, rfl, rfl, (rwV.no (by omega)).symm, Or.inl (by decide)⟩) dX12_rowOf_56
  · have tcv3 := eqF cv3
    refine lv_aload_n hx hb dX12_rowOf_20 rfl (lv_at hl 2 rfl) ?_
    refine rr_getA (k := 17) (j := 9) C hM f_X12_42 rfl rfl dX12_rowOf_21 ?_
    refine lv_iload_n hx hb dX12_rowOf_24 rfl (lv_at hl 4 rfl) ?_
    refine lv_iconst (v := 0) hx hb dX12_rowOf_25 (by decide) ?_
    refine r_S (As := [.int i1, .int 0]) (rest := [.ref (h0 + 1 + 9)]) C hM (c_X12_spot l D H0 (rM h0 R) kc ns i1 0 (by omega) (by omega) (by omega) (by omega)) i_X12_spot m_X12_151 rfl hl.1 rfl (Nat.le_of_ble_eq_true rfl) ⟨by decide, by decide⟩ ⟨by decide, by decide⟩ dX12_rowOf_26 (fun xv7 Sv4 kv5 nv6 H locs pv8 hM => ?_)
    obtain ⟨rfl, rfl, rfl, hxv7⟩ := pv8
    refine W.eq (g2 := F0 m 29 ls [.int xv7, .ref (h0 + 1 + 9)]) rfl ?_
    refine rr_ldJ (j := 9) (k := 17) (n := 1860) (v := rB R 17 xv7.toNatClampNeg) C hM rfl rfl rfl (inI (by omega) (by show _ < (1860 : Int); omega)) (congrFun (hF.gB 17 (by decide)) xv7.toNatClampNeg) dX12_rowOf_29 ?_
    refine lv_topl (fun lv9 elv9 => ?_)
    have fk9 : rB R 17 (60 * i1.toNatClampNeg) = lv9 := by rw [elv9, sp9 (g := i1) (p := 0) (x := xv7) (by omega) (by decide) (by omega)]; rfl
    refine lv_aload_n hx hb dX12_rowOf_30 rfl (lv_at hl 2 rfl) ?_
    refine rr_getA (k := 39) (j := 18) C hM f_X12_74 rfl rfl dX12_rowOf_31 ?_
    refine lv_bipush (v := 12) hx hb dX12_rowOf_34 (by decide) ?_
    refine lv_iload_n hx hb dX12_rowOf_36 rfl (lv_at hl 3 rfl) ?_
    refine lv_imul hx hb dX12_rowOf_37 ?_
    refine lv_topi (fun xv10 exv10 => ?_)
    try (have txv10 := mulD (a := i0) (k := 12) (n := 12) (by decide) (by omega) (by omega); rw [← exv10] at txv10)
    refine rr_ldJ (j := 18) (k := 39) (n := 252) (v := rB R 39 xv10.toNatClampNeg) C hM rfl rfl rfl (inI (by omega) (by show _ < (252 : Int); omega)) (congrFun (hF.gB 39 (by decide)) xv10.toNatClampNeg) dX12_rowOf_38 ?_
    refine lv_topl (fun lv11 elv11 => ?_)
    have fp9 : rB R 39 (12 * i0).toNatClampNeg = lv11 := by rw [elv11, exv10]
    refine W.lcmp hx hb dX12_rowOf_39 ?_
    refine lv_topi (fun xv12 exv12 => ?_)
    have fc9 : (lg_cmp (rB R 17 (60 * i1.toNatClampNeg)) (rB R 39 (12 * i0).toNatClampNeg)).toInt = xv12.toInt := by rw [fk9, fp9, ← exv12]
    refine lv_if_ne (tgt := 55) hx hb dX12_rowOf_40 (by decide) (fun cv13 => ?_) (fun cv13 => ?_)
    · have tcv13 := eqF cv13
      refine lv_iconst (v := -1) hx hb dX12_rowOf_55 (by decide) ?_
      exact r_retI C hr hlk hM (⟨rfl, rfl, rfl, (rwV.no (by omega)).symm, Or.inl (by decide)⟩) dX12_rowOf_56
    · have tcv13 := eqT cv13
      refine lv_aload_n hx hb dX12_rowOf_43 rfl (lv_at hl 2 rfl) ?_
      refine rr_getA (k := 40) (j := 19) C hM f_X12_77 rfl rfl dX12_rowOf_44 ?_
      refine lv_bipush (v := 12) hx hb dX12_rowOf_47 (by decide) ?_
      refine lv_iload_n hx hb dX12_rowOf_49 rfl (lv_at hl 3 rfl) ?_
      refine lv_imul hx hb dX12_rowOf_50 ?_
      rw [← exv10]
      refine rr_ldI (j := 19) (k := 40) (n := 252) (v := rA R 40 xv10.toNatClampNeg) C hM rfl rfl rfl (inI (by omega) (by show _ < (252 : Int); omega)) (congrFun (hF.gA 40 (by decide)) xv10.toNatClampNeg) dX12_rowOf_51 ?_
      refine lv_topi (fun xv14 exv14 => ?_)
      have fz9 : (rA R 40 (12 * i0).toNatClampNeg).toInt = xv14.toInt := by rw [exv14, exv10]
      refine lv_if_eq (tgt := 57) hx hb dX12_rowOf_52 (by decide) (fun cv15 => ?_) (fun cv15 => ?_)
      · have tcv15 := eqT cv15
        refine lv_aload_n hx hb dX12_rowOf_57 rfl (lv_at hl 2 rfl) ?_
        refine rr_getA (k := 42) (j := 21) C hM f_X12_83 rfl rfl dX12_rowOf_58 ?_
        refine lv_iload_n hx hb dX12_rowOf_61 rfl (lv_at hl 3 rfl) ?_
        refine rr_ldI (j := 21) (k := 42) (n := 21) (v := rA R 42 i0.toNatClampNeg) C hM rfl rfl rfl (inI (by omega) (by show _ < (21 : Int); omega)) (congrFun (hF.gA 42 (by decide)) i0.toNatClampNeg) dX12_rowOf_62 ?_
        refine lv_topi (fun xv16 exv16 => ?_)
        have mxv16 : xv16.toInt = (rA R 42 i0.toNatClampNeg).toInt := by rw [exv16]
        refine lv_if_ne (tgt := 68) hx hb dX12_rowOf_63 (by decide) (fun cv17 => ?_) (fun cv17 => ?_)
        · have tcv17 := eqF cv17
          refine lv_iconst (v := 1) hx hb dX12_rowOf_68 (by decide) ?_
          refine lv_istore (lv' := [(6, .int 1), (5, .int xv1), (4, .int 0), (0, .ref h0), (1, .int i0), (2, .int i1), (3, .int i2)]) hx hb dX12_rowOf_69 hl (by decide) rfl (fun ls hl => ?_)
          have loop71 : ∀ (fu : Nat) (dz : Int32) (fz : Int32) (H : Heap) (locs : List Loc) (ls : Array Slot), (1 ≤ dz.toInt ∧ dz.toInt ≤ 12) → (rwF R i0 i1 i2 ((rA R 41 i0.toNatClampNeg).toInt - dz.toInt).toNat dz fz = rwV R i0 i1 i2) → (fz.toInt = -1 ∨ (0 ≤ fz.toInt ∧ fz.toInt < (rA R 10 i1.toNatClampNeg).toInt)) → (12 - dz.toInt).toNat < fu → lv_has ls 8 [(0, .ref h0), (1, .int i0), (2, .int i1), (3, .int i2), (4, .int fz), (5, .int xv1), (6, .int dz)] → mH D H0 (rM h0 R) kc ns H locs → W p l e ({ frames := 2, cells := 0, slots := 0, locals := 47 } : Room) s m args below meth c H locs 0 0 (MQ below (mQ D H0 gI (fun r S1 k1 n1 => rM h0 R = S1 ∧ kc = k1 ∧ ns = n1 ∧ (r = rwV R i0 i1 i2 ∧ (r.toInt = -1 ∨ (0 ≤ r.toInt ∧ r.toInt < (rA R 10 i1.toNatClampNeg).toInt))))) args s 0 0 (mF H0)) (F0 m 71 ls []) := by
            intro fu
            induction fu with
            | zero => intro dz fz H locs ls h71_0 h71_1 h71_2 hfu; exact absurd hfu (by omega)
            | succ fu ih71 =>
              intro dz fz H locs ls h71_0 h71_1 h71_2 hfu hl hM
              refine lv_iload hx hb dX12_rowOf_71 (lv_at hl 6 rfl) ?_
              refine lv_iload hx hb dX12_rowOf_73 (lv_at hl 5 rfl) ?_
              refine lv_icmp_ge (tgt := 155) hx hb dX12_rowOf_75 (by decide) (fun cv18 => ?_) (fun cv18 => ?_)
              · have tcv18 := leT cv18
                refine lv_iload hx hb dX12_rowOf_155 (lv_at hl 4 rfl) ?_
                exact r_retI C hr hlk hM (⟨rfl, rfl, rfl, by first | exact (rwF.stop (by omega)).symm.trans h71_1 | (rw [show ((rA R 41 i0.toNatClampNeg).toInt - dz.toInt).toNat = 0 by omega] at h71_1; exact h71_1), by omega⟩) dX12_rowOf_157
              · have tcv18 := leF cv18
                refine lv_iload hx hb dX12_rowOf_78 (lv_at hl 4 rfl) ?_
                refine lv_if_lt (tgt := 155) hx hb dX12_rowOf_80 (by decide) (fun cv19 => ?_) (fun cv19 => ?_)
                · have tcv19 := ltT cv19
                  refine lv_iload hx hb dX12_rowOf_155 (lv_at hl 4 rfl) ?_
                  exact r_retI C hr hlk hM (⟨rfl, rfl, rfl, by first | exact (rwF.stop (by omega)).symm.trans h71_1 | (rw [show ((rA R 41 i0.toNatClampNeg).toInt - dz.toInt).toNat = 0 by omega] at h71_1; exact h71_1), by omega⟩) dX12_rowOf_157
                · have tcv19 := ltF cv19
                  refine lv_iload hx hb dX12_rowOf_83 (lv_at hl 6 rfl) ?_
                  refine lv_aload_n hx hb dX12_rowOf_85 rfl (lv_at hl 0 rfl) ?_
                  refine rr_getA (k := 42) (j := 21) C hM f_X12_83 rfl rfl dX12_rowOf_86 ?_
                  refine lv_iload_n hx hb dX12_rowOf_89 rfl (lv_at hl 1 rfl) ?_
                  refine rr_ldI (j := 21) (k := 42) (n := 21) (v := xv16) C hM rfl rfl rfl (inI (by omega) (by show _ < (21 : Int); omega)) ((congrFun (hF.gA 42 (by decide)) i0.toNatClampNeg).trans exv16.symm) dX12_rowOf_90 ?_
                  refine lv_icmp_ne (tgt := 112) hx hb dX12_rowOf_91 (by decide) (fun cv20 => ?_) (fun cv20 => ?_)
                  · have tcv20 := eqF cv20
                    refine lv_aload_n hx hb dX12_rowOf_112 rfl (lv_at hl 0 rfl) ?_
                    refine rr_getA (k := 40) (j := 19) C hM f_X12_77 rfl rfl dX12_rowOf_113 ?_
                    refine lv_bipush (v := 12) hx hb dX12_rowOf_116 (by decide) ?_
                    refine lv_iload_n hx hb dX12_rowOf_118 rfl (lv_at hl 1 rfl) ?_
                    refine lv_imul hx hb dX12_rowOf_119 ?_
                    rw [← exv10]
                    refine lv_iload hx hb dX12_rowOf_120 (lv_at hl 6 rfl) ?_
                    refine lv_iadd hx hb dX12_rowOf_122 ?_
                    refine lv_topi (fun xv21 exv21 => ?_)
                    try (have txv21 := addI (a := xv10) (b := dz) (by omega) (by omega); rw [← exv21] at txv21)
                    refine rr_ldI (j := 19) (k := 40) (n := 252) (v := rA R 40 xv21.toNatClampNeg) C hM rfl rfl rfl (inI (by omega) (by show _ < (252 : Int); omega)) (congrFun (hF.gA 40 (by decide)) xv21.toNatClampNeg) dX12_rowOf_123 ?_
                    refine lv_topi (fun xv22 exv22 => ?_)
                    have fT : xv22 = rwT R i0 i2 dz := by unfold rwT; rw [if_neg (by omega), exv22, exv21, exv10]
                    refine lv_istore (lv' := [(7, .int xv22), (0, .ref h0), (1, .int i0), (2, .int i1), (3, .int i2), (4, .int fz), (5, .int xv1), (6, .int dz)]) hx hb dX12_rowOf_124 hl (by decide) rfl (fun ls hl => ?_)
                    refine lv_aload_n hx hb dX12_rowOf_126 rfl (lv_at hl 1 rfl) ?_
                    refine lv_iload_n hx hb dX12_rowOf_127 rfl (lv_at hl 3 rfl) ?_
                    refine lv_iload hx hb dX12_rowOf_128 (lv_at hl 5 rfl) ?_
                    refine lv_aload_n hx hb dX12_rowOf_130 rfl (lv_at hl 1 rfl) ?_
                    refine rr_getA (k := 39) (j := 18) C hM f_X12_74 rfl rfl dX12_rowOf_131 ?_
                    refine lv_bipush (v := 12) hx hb dX12_rowOf_134 (by decide) ?_
                    refine lv_iload_n hx hb dX12_rowOf_136 rfl (lv_at hl 2 rfl) ?_
                    refine lv_imul hx hb dX12_rowOf_137 ?_
                    rw [← exv10]
                    refine lv_iload hx hb dX12_rowOf_138 (lv_at hl 7 rfl) ?_
                    refine lv_iadd hx hb dX12_rowOf_140 ?_
                    rw [← exv21]
                    refine rr_ldJ (j := 18) (k := 39) (n := 252) (v := rB R 39 xv21.toNatClampNeg) C hM rfl rfl rfl (inI (by omega) (by show _ < (252 : Int); omega)) (congrFun (hF.gB 39 (by decide)) xv21.toNatClampNeg) dX12_rowOf_141 ?_
                    refine lv_topl (fun lv23 elv23 => ?_)
                    have fK : lv23 = rB R 39 (12 * i0 + dz).toNatClampNeg := by rw [elv23, exv21, exv10]
                    refine lv_iload hx hb dX12_rowOf_142 (lv_at hl 0 rfl) ?_
                    refine r_V (As := [.int i1, .int fz, .long lv23, .int xv22]) (rest := []) (ci := 12) C hM (c_X12_child l D H0 h0 R kc ns i1 fz lv23 xv22 hI0 (by omega) (by omega) (by omega) (by omega)) i_X12_child m_X12_297 rK0 rfl rfl rfl hl.1 rfl (Nat.le_of_ble_eq_true rfl) ⟨by decide, by decide⟩ ⟨by decide, by decide⟩ dX12_rowOf_144 (fun xv27 Sv24 kv25 nv26 H locs pv28 hM => ?_)
                    obtain ⟨rfl, rfl, rfl, ⟨hwxv27, hxv27⟩⟩ := pv28
                    refine W.eq (g2 := F0 m 147 ls [.int xv27]) rfl ?_
                    refine lv_istore (lv' := [(4, .int xv27), (7, .int xv22), (0, .ref h0), (1, .int i0), (2, .int i1), (3, .int i2), (5, .int xv1), (6, .int dz)]) hx hb dX12_rowOf_147 hl (by decide) rfl (fun ls hl => ?_)
                    obtain ⟨xv29, exv29⟩ : ∃ y : Int32, y = dz + 1 := ⟨_, rfl⟩
                    try (have txv29 := addI (a := dz) (b := 1) (by omega) (by omega); rw [← exv29] at txv29)
                    refine lv_iinc (v := xv29) (lv' := [(6, .int xv29), (4, .int xv27), (7, .int xv22), (0, .ref h0), (1, .int i0), (2, .int i1), (3, .int i2), (5, .int xv1)]) hx hb dX12_rowOf_149 hl (k := 7) rfl (by rw [exv29]; rfl) (by decide) rfl (fun ls hl => ?_)
                    refine lv_goto (tgt := 71) hx hb dX12_rowOf_152 (by decide) ?_
                    exact ih71 xv29 xv27 _ _ _ (by omega) (by rw [show ((rA R 41 i0.toNatClampNeg).toInt - xv29.toInt).toNat = ((rA R 41 i0.toNatClampNeg).toInt - dz.toInt).toNat - 1 by omega, exv29 , hwxv27 , fT, fK]; exact (rwF.step (by omega) (by omega)).symm.trans h71_1) (by omega) (by omega) (lv_sub hl [3, 4, 5, 6, 1, 7, 0] rfl) hM
                  · have tcv20 := eqT cv20
                    refine lv_aload_n hx hb dX12_rowOf_94 rfl (lv_at hl 0 rfl) ?_
                    refine rr_getA (k := 43) (j := 22) C hM f_X12_86 rfl rfl dX12_rowOf_95 ?_
                    refine lv_iload_n hx hb dX12_rowOf_98 rfl (lv_at hl 1 rfl) ?_
                    refine rr_ldI (j := 22) (k := 43) (n := 21) (v := rA R 43 i0.toNatClampNeg) C hM rfl rfl rfl (inI (by omega) (by show _ < (21 : Int); omega)) (congrFun (hF.gA 43 (by decide)) i0.toNatClampNeg) dX12_rowOf_99 ?_
                    refine lv_topi (fun xv30 exv30 => ?_)
                    refine lv_iload_n hx hb dX12_rowOf_100 rfl (lv_at hl 3 rfl) ?_
                    refine lv_aload_n hx hb dX12_rowOf_101 rfl (lv_at hl 0 rfl) ?_
                    refine rr_getA (k := 44) (j := 23) C hM f_X12_89 rfl rfl dX12_rowOf_102 ?_
                    refine lv_iload_n hx hb dX12_rowOf_105 rfl (lv_at hl 1 rfl) ?_
                    refine rr_ldI (j := 23) (k := 44) (n := 21) (v := rA R 44 i0.toNatClampNeg) C hM rfl rfl rfl (inI (by omega) (by show _ < (21 : Int); omega)) (congrFun (hF.gA 44 (by decide)) i0.toNatClampNeg) dX12_rowOf_106 ?_
                    refine lv_topi (fun xv31 exv31 => ?_)
                    refine lv_imul hx hb dX12_rowOf_107 ?_
                    refine lv_topi (fun xv32 exv32 => ?_)
                    refine lv_iadd hx hb dX12_rowOf_108 ?_
                    refine lv_topi (fun xv33 exv33 => ?_)
                    try (have txv33 := addI (a := xv30) (b := xv32) (by omega) (by omega); rw [← exv33] at txv33)
                    have fT : xv33 = rwT R i0 i2 dz := by unfold rwT; rw [if_pos (by omega), exv33, exv32, exv30, exv31]
                    refine lv_goto (tgt := 124) hx hb dX12_rowOf_109 (by decide) ?_
                    refine lv_istore (lv' := [(7, .int xv33), (0, .ref h0), (1, .int i0), (2, .int i1), (3, .int i2), (4, .int fz), (5, .int xv1), (6, .int dz)]) hx hb dX12_rowOf_124 hl (by decide) rfl (fun ls hl => ?_)
                    refine lv_aload_n hx hb dX12_rowOf_126 rfl (lv_at hl 1 rfl) ?_
                    refine lv_iload_n hx hb dX12_rowOf_127 rfl (lv_at hl 3 rfl) ?_
                    refine lv_iload hx hb dX12_rowOf_128 (lv_at hl 5 rfl) ?_
                    refine lv_aload_n hx hb dX12_rowOf_130 rfl (lv_at hl 1 rfl) ?_
                    refine rr_getA (k := 39) (j := 18) C hM f_X12_74 rfl rfl dX12_rowOf_131 ?_
                    refine lv_bipush (v := 12) hx hb dX12_rowOf_134 (by decide) ?_
                    refine lv_iload_n hx hb dX12_rowOf_136 rfl (lv_at hl 2 rfl) ?_
                    refine lv_imul hx hb dX12_rowOf_137 ?_
                    rw [← exv10]
                    refine lv_iload hx hb dX12_rowOf_138 (lv_at hl 7 rfl) ?_
                    refine lv_iadd hx hb dX12_rowOf_140 ?_
                    refine lv_topi (fun xv34 exv34 => ?_)
                    try (have txv34 := addI (a := xv10) (b := dz) (by omega) (by omega); rw [← exv34] at txv34)
                    refine rr_ldJ (j := 18) (k := 39) (n := 252) (v := rB R 39 xv34.toNatClampNeg) C hM rfl rfl rfl (inI (by omega) (by show _ < (252 : Int); omega)) (congrFun (hF.gB 39 (by decide)) xv34.toNatClampNeg) dX12_rowOf_141 ?_
                    refine lv_topl (fun lv35 elv35 => ?_)
                    have fK : lv35 = rB R 39 (12 * i0 + dz).toNatClampNeg := by rw [elv35, exv34, exv10]
                    refine lv_iload hx hb dX12_rowOf_142 (lv_at hl 0 rfl) ?_
                    refine r_V (As := [.int i1, .int fz, .long lv35, .int xv33]) (rest := []) (ci := 12) C hM (c_X12_child l D H0 h0 R kc ns i1 fz lv35 xv33 hI0 (by omega) (by omega) (by omega) (by omega)) i_X12_child m_X12_297 rK0 rfl rfl rfl hl.1 rfl (Nat.le_of_ble_eq_true rfl) ⟨by decide, by decide⟩ ⟨by decide, by decide⟩ dX12_rowOf_144 (fun xv39 Sv36 kv37 nv38 H locs pv40 hM => ?_)
                    obtain ⟨rfl, rfl, rfl, ⟨hwxv39, hxv39⟩⟩ := pv40
                    refine W.eq (g2 := F0 m 147 ls [.int xv39]) rfl ?_
                    refine lv_istore (lv' := [(4, .int xv39), (7, .int xv33), (0, .ref h0), (1, .int i0), (2, .int i1), (3, .int i2), (5, .int xv1), (6, .int dz)]) hx hb dX12_rowOf_147 hl (by decide) rfl (fun ls hl => ?_)
                    obtain ⟨xv41, exv41⟩ : ∃ y : Int32, y = dz + 1 := ⟨_, rfl⟩
                    try (have txv41 := addI (a := dz) (b := 1) (by omega) (by omega); rw [← exv41] at txv41)
                    refine lv_iinc (v := xv41) (lv' := [(6, .int xv41), (4, .int xv39), (7, .int xv33), (0, .ref h0), (1, .int i0), (2, .int i1), (3, .int i2), (5, .int xv1)]) hx hb dX12_rowOf_149 hl (k := 7) rfl (by rw [exv41]; rfl) (by decide) rfl (fun ls hl => ?_)
                    refine lv_goto (tgt := 71) hx hb dX12_rowOf_152 (by decide) ?_
                    exact ih71 xv41 xv39 _ _ _ (by omega) (by rw [show ((rA R 41 i0.toNatClampNeg).toInt - xv41.toInt).toNat = ((rA R 41 i0.toNatClampNeg).toInt - dz.toInt).toNat - 1 by omega, exv41 , hwxv39 , fT, fK]; exact (rwF.step (by omega) (by omega)).symm.trans h71_1) (by omega) (by omega) (lv_sub hl [3, 4, 5, 6, 1, 7, 0] rfl) hM
          exact loop71 (((12 - (1 : Int32).toInt).toNat) + 1) 1 0 _ _ _ (by omega) (by rw [rwV.go (by omega), t_1]) (by omega) (by omega) (lv_sub hl [3, 4, 5, 6, 2, 1, 0] rfl) hM
        · have tcv17 := eqT cv17
          refine lv_iconst (v := -1) hx hb dX12_rowOf_66 (by decide) ?_
          exact r_retI C hr hlk hM (⟨rfl, rfl, rfl, (rwV.no (by omega)).symm, Or.inl (by decide)⟩) dX12_rowOf_67
      · have tcv15 := eqF cv15
        refine lv_iconst (v := -1) hx hb dX12_rowOf_55 (by decide) ?_
        exact r_retI C hr hlk hM (⟨rfl, rfl, rfl, (rwV.no (by omega)).symm, Or.inl (by decide)⟩) dX12_rowOf_56
set_option maxHeartbeats 4000000 in
set_option maxRecDepth 100000 in
theorem c_X12_rowsOf (l : Launch) (D : gD) (H0 : gB) (h0 : Nat) (R : RS) (kc ns : Nat) (i0 i1 : Int32) (hI : RI R) (r0 : 0 ≤ i0.toInt) (r1 : i0.toInt ≤ 20) (g01 : 0 ≤ i1.toInt) (g11 : i1.toInt < 30)  : Met l yX12_rowsOf (wsU yX12_rowsOf cX12_rowsOf 4 (some .int)) ({ frames := 3, cells := 0, slots := 0, locals := 74 } : Room) (mP D H0 (rM h0 R) kc ns [.ref h0, .int i0, .int i1]) (mQ D H0 gI (fun r S1 k1 n1 => rM h0 R = S1 ∧ kc = k1 ∧ ns = n1 ∧ (0 ≤ r.toInt ∧ r.toInt ≤ 60) ∧ (∀ k : Int32, 0 ≤ k.toInt → k.toInt < r.toInt → 0 ≤ (rwV R i0 i1 k).toInt))) 0 0 (mF H0) := by
  refine r_met (own := RX12) (by decide +kernel) rfl (Nat.le_of_ble_eq_true rfl) ?_
  intro p e s m args below meth c C hr hlk hnm H ls hl hM
  obtain ⟨hx, hb, hml, hown, hts, -, -⟩ := id C
  have hl : lv_has ls 4 [(0, .ref h0), (1, .int i0), (2, .int i1)] := hl
  have hF : fr [] R R := fr.rf
  have hI0 := hI
  have t_0 : (0 : Int32).toInt = 0 := by decide
  have t_1 : (1 : Int32).toInt = 1 := by decide
  have t_60 : (60 : Int32).toInt = 60 := by decide
  refine lv_iconst (v := 0) hx hb dX12_rowsOf_0 (by decide) ?_
  refine lv_istore_n (lv' := [(3, .int 0), (0, .ref h0), (1, .int i0), (2, .int i1)]) hx hb dX12_rowsOf_1 rfl hl (by decide) rfl (fun ls hl => ?_)
  have loop2 : ∀ (fu : Nat) (nz : Int32) (H : Heap) (locs : List Loc) (ls : Array Slot), (0 ≤ nz.toInt ∧ nz.toInt ≤ 60) → (∀ k : Int32, 0 ≤ k.toInt → k.toInt < nz.toInt → 0 ≤ (rwV R i0 i1 k).toInt) → (60 - nz.toInt).toNat < fu → lv_has ls 4 [(0, .ref h0), (1, .int i0), (2, .int i1), (3, .int nz)] → mH D H0 (rM h0 R) kc ns H locs → W p l e ({ frames := 3, cells := 0, slots := 0, locals := 74 } : Room) s m args below meth c H locs 0 0 (MQ below (mQ D H0 gI (fun r S1 k1 n1 => rM h0 R = S1 ∧ kc = k1 ∧ ns = n1 ∧ (0 ≤ r.toInt ∧ r.toInt ≤ 60) ∧ (∀ k : Int32, 0 ≤ k.toInt → k.toInt < r.toInt → 0 ≤ (rwV R i0 i1 k).toInt))) args s 0 0 (mF H0)) (F0 m 2 ls []) := by
    intro fu
    induction fu with
    | zero => intro nz H locs ls h2_0 h2_1 hfu; exact absurd hfu (by omega)
    | succ fu ih2 =>
      intro nz H locs ls h2_0 h2_1 hfu hl hM
      refine lv_iload_n hx hb dX12_rowsOf_2 rfl (lv_at hl 3 rfl) ?_
      refine lv_bipush (v := 60) hx hb dX12_rowsOf_3 (by decide) ?_
      refine lv_icmp_ge (tgt := 24) hx hb dX12_rowsOf_5 (by decide) (fun cv1 => ?_) (fun cv1 => ?_)
      · have tcv1 := leT cv1
        refine lv_iload_n hx hb dX12_rowsOf_24 rfl (lv_at hl 3 rfl) ?_
        exact r_retI C hr hlk hM (⟨rfl, rfl, rfl, by omega, h2_1⟩) dX12_rowsOf_25
      · have tcv1 := leF cv1
        refine lv_aload_n hx hb dX12_rowsOf_8 rfl (lv_at hl 0 rfl) ?_
        refine lv_iload_n hx hb dX12_rowsOf_9 rfl (lv_at hl 1 rfl) ?_
        refine lv_iload_n hx hb dX12_rowsOf_10 rfl (lv_at hl 2 rfl) ?_
        refine lv_iload_n hx hb dX12_rowsOf_11 rfl (lv_at hl 3 rfl) ?_
        refine r_V (As := [.int i0, .int i1, .int nz]) (rest := []) (ci := 12) C hM (c_X12_rowOf l D H0 h0 R kc ns i0 i1 nz hI0 (by omega) (by omega) (by omega) (by omega)) i_X12_rowOf m_X12_301 rK0 rfl rfl rfl hl.1 rfl (Nat.le_of_ble_eq_true rfl) ⟨by decide, by decide⟩ ⟨by decide, by decide⟩ dX12_rowsOf_12 (fun xv5 Sv2 kv3 nv4 H locs pv6 hM => ?_)
        obtain ⟨rfl, rfl, rfl, ⟨hwxv5, hxv5⟩⟩ := pv6
        refine W.eq (g2 := F0 m 15 ls [.int xv5]) rfl ?_
        refine lv_if_lt (tgt := 24) hx hb dX12_rowsOf_15 (by decide) (fun cv7 => ?_) (fun cv7 => ?_)
        · have tcv7 := ltT cv7
          refine lv_iload_n hx hb dX12_rowsOf_24 rfl (lv_at hl 3 rfl) ?_
          exact r_retI C hr hlk hM (⟨rfl, rfl, rfl, by omega, h2_1⟩) dX12_rowsOf_25
        · have tcv7 := ltF cv7
          obtain ⟨xv8, exv8⟩ : ∃ y : Int32, y = nz + 1 := ⟨_, rfl⟩
          try (have txv8 := addI (a := nz) (b := 1) (by omega) (by omega); rw [← exv8] at txv8)
          refine lv_iinc (v := xv8) (lv' := [(3, .int xv8), (0, .ref h0), (1, .int i0), (2, .int i1)]) hx hb dX12_rowsOf_18 hl (k := 3) rfl (by rw [exv8]; rfl) (by decide) rfl (fun ls hl => ?_)
          refine lv_goto (tgt := 2) hx hb dX12_rowsOf_21 (by decide) ?_
          exact ih2 xv8 _ _ _ (by omega) (fun k h1 h2 => if e : k.toInt = nz.toInt then (by rw [Int32.toInt_inj.mp e, ← hwxv5]; omega) else h2_1 k h1 (by omega)) (by omega) (lv_sub hl [1, 2, 3, 0] rfl) hM
  exact loop2 (((60 - (0 : Int32).toInt).toNat) + 1) 0 _ _ _ (by omega) (fun k h1 h2 => absurd h2 (by omega)) (by omega) (lv_sub hl [1, 2, 3, 0] rfl) hM
set_option maxHeartbeats 4000000 in
set_option maxRecDepth 100000 in
theorem c_X12_rows (l : Launch) (D : gD) (H0 : gB) (h0 : Nat) (R : RS) (kc ns : Nat) (i0 i1 i2 i3 : Int32) (hI : RI R)  : Met l yX12_rows (wsU yX12_rows cX12_rows 5 (some .int)) ({ frames := 4, cells := 0, slots := 0, locals := 97 } : Room) (mP D H0 (rM h0 R) kc ns [.ref h0, .int i0, .int i1, .int i2, .int i3]) (mQ D H0 gI (fun r S1 k1 n1 => kc = k1 ∧ ns = n1 ∧ ∃ R1, S1 = rM h0 R1 ∧ fr [39, 40, 41, 42, 43, 44] R R1 ∧ RI R1 ∧ (r.toInt = -1 ∨ (0 ≤ i3.toInt ∧ i3.toInt < 4)))) 0 0 (mF H0) := by
  refine r_met (own := RX12) (by decide +kernel) rfl (Nat.le_of_ble_eq_true rfl) ?_
  intro p e s m args below meth c C hr hlk hnm H ls hl hM
  obtain ⟨hx, hb, hml, hown, hts, -, -⟩ := id C
  have hl : lv_has ls 5 [(0, .ref h0), (1, .int i0), (2, .int i1), (3, .int i2), (4, .int i3)] := hl
  have hF : fr [39, 40, 41, 42, 43, 44] R R := fr.rf
  have hI0 := hI
  have t_m1 : (-1 : Int32).toInt = -1 := by decide
  have t_0 : (0 : Int32).toInt = 0 := by decide
  have t_20 : (20 : Int32).toInt = 20 := by decide
  have fm0 := RI.many hI i0.toNatClampNeg
  refine lv_aload_n hx hb dX12_rows_0 rfl (lv_at hl 0 rfl) ?_
  refine lv_iload_n hx hb dX12_rows_1 rfl (lv_at hl 1 rfl) ?_
  refine lv_iload_n hx hb dX12_rows_2 rfl (lv_at hl 2 rfl) ?_
  refine r_V (As := [.int i0, .int i1]) (rest := []) (ci := 12) C hM (c_X12_isPart l D H0 h0 R kc ns i0 i1 hI) i_X12_isPart m_X12_185 rK0 rfl rfl rfl hl.1 rfl (Nat.le_of_ble_eq_true rfl) ⟨by decide, by decide⟩ ⟨by decide, by decide⟩ dX12_rows_3 (fun xv4 Sv1 kv2 nv3 H locs pv5 hM => ?_)
  obtain ⟨rfl, rfl, rfl, hxv4⟩ := pv5
  refine W.eq (g2 := F0 m 6 ls [.int xv4]) rfl ?_
  refine lv_if_eq (tgt := 39) hx hb dX12_rows_6 (by decide) (fun cv6 => ?_) (fun cv6 => ?_)
  · have tcv6 := eqT cv6
    refine lv_iconst (v := -1) hx hb dX12_rows_39 (by decide) ?_
    exact r_retI C hr hlk hM (⟨rfl, rfl, _, rfl, hF, hI, by omega⟩) dX12_rows_40
  · have tcv6 := eqF cv6
    refine lv_aload_n hx hb dX12_rows_9 rfl (lv_at hl 0 rfl) ?_
    refine lv_iload_n hx hb dX12_rows_10 rfl (lv_at hl 1 rfl) ?_
    refine lv_iload_n hx hb dX12_rows_11 rfl (lv_at hl 3 rfl) ?_
    refine r_V (As := [.int i0, .int i2]) (rest := []) (ci := 12) C hM (c_X12_isPart l D H0 h0 R kc ns i0 i2 hI) i_X12_isPart m_X12_185 rK0 rfl rfl rfl hl.1 rfl (Nat.le_of_ble_eq_true rfl) ⟨by decide, by decide⟩ ⟨by decide, by decide⟩ dX12_rows_12 (fun xv10 Sv7 kv8 nv9 H locs pv11 hM => ?_)
    obtain ⟨rfl, rfl, rfl, hxv10⟩ := pv11
    refine W.eq (g2 := F0 m 15 ls [.int xv10]) rfl ?_
    refine lv_if_eq (tgt := 39) hx hb dX12_rows_15 (by decide) (fun cv12 => ?_) (fun cv12 => ?_)
    · have tcv12 := eqT cv12
      refine lv_iconst (v := -1) hx hb dX12_rows_39 (by decide) ?_
      exact r_retI C hr hlk hM (⟨rfl, rfl, _, rfl, hF, hI, by omega⟩) dX12_rows_40
    · have tcv12 := eqF cv12
      refine lv_aload_n hx hb dX12_rows_18 rfl (lv_at hl 0 rfl) ?_
      refine lv_iload hx hb dX12_rows_19 (lv_at hl 4 rfl) ?_
      refine r_V (As := [.int i3]) (rest := []) (ci := 12) C hM (c_X12_hasPage l D H0 h0 R kc ns i3 hI) i_X12_hasPage m_X12_235 rK0 rfl rfl rfl hl.1 rfl (Nat.le_of_ble_eq_true rfl) ⟨by decide, by decide⟩ ⟨by decide, by decide⟩ dX12_rows_21 (fun xv16 Sv13 kv14 nv15 H locs pv17 hM => ?_)
      obtain ⟨rfl, rfl, rfl, hxv16⟩ := pv17
      refine W.eq (g2 := F0 m 24 ls [.int xv16]) rfl ?_
      refine lv_if_eq (tgt := 39) hx hb dX12_rows_24 (by decide) (fun cv18 => ?_) (fun cv18 => ?_)
      · have tcv18 := eqT cv18
        refine lv_iconst (v := -1) hx hb dX12_rows_39 (by decide) ?_
        exact r_retI C hr hlk hM (⟨rfl, rfl, _, rfl, hF, hI, by omega⟩) dX12_rows_40
      · have tcv18 := eqF cv18
        refine lv_aload_n hx hb dX12_rows_27 rfl (lv_at hl 0 rfl) ?_
        refine lv_bipush (v := 20) hx hb dX12_rows_28 (by decide) ?_
        refine lv_iload_n hx hb dX12_rows_30 rfl (lv_at hl 1 rfl) ?_
        refine lv_iload_n hx hb dX12_rows_31 rfl (lv_at hl 2 rfl) ?_
        refine lv_iload_n hx hb dX12_rows_32 rfl (lv_at hl 3 rfl) ?_
        refine r_V (As := [.int 20, .int i0, .int i1, .int i2]) (rest := []) (ci := 12) C hM (c_X12_lay l D H0 h0 R kc ns 20 i0 i1 i2 hI (by omega) (by omega) (by omega) (by omega) (by omega) (by rw [hF.gA 10 (by decide)]; omega) (by omega) (by rw [hF.gA 10 (by decide)]; omega)) i_X12_lay m_X12_304 rK0 rfl rfl rfl hl.1 rfl (Nat.le_of_ble_eq_true rfl) ⟨by decide, by decide⟩ ⟨by decide, by decide⟩ dX12_rows_33 (fun xv22 Sv19 kv20 nv21 H locs pv23 hM => ?_)
        obtain ⟨rfl, rfl, Rv24, rfl, hf9, ⟨hI, hxv22⟩⟩ := pv23
        have hF : fr [39, 40, 41, 42, 43, 44] R Rv24 := hF.trans hf9 (by decide)
        refine W.eq (g2 := F0 m 36 ls [.int xv22]) rfl ?_
        refine lv_if_ne (tgt := 41) hx hb dX12_rows_36 (by decide) (fun cv25 => ?_) (fun cv25 => ?_)
        · have tcv25 := eqF cv25
          refine lv_aload_n hx hb dX12_rows_41 rfl (lv_at hl 0 rfl) ?_
          refine lv_bipush (v := 20) hx hb dX12_rows_42 (by decide) ?_
          refine lv_iload hx hb dX12_rows_44 (lv_at hl 4 rfl) ?_
          refine r_V (As := [.int 20, .int i3]) (rest := []) (ci := 12) C hM (c_X12_rowsOf l D H0 h0 Rv24 kc ns 20 i3 hI (by omega) (by omega) (by omega) (by omega)) i_X12_rowsOf m_X12_307 rK0 rfl rfl rfl hl.1 rfl (Nat.le_of_ble_eq_true rfl) ⟨by decide, by decide⟩ ⟨by decide, by decide⟩ dX12_rows_46 (fun xv29 Sv26 kv27 nv28 H locs pv30 hM => ?_)
          obtain ⟨rfl, rfl, rfl, ⟨hxv29, hrxv29⟩⟩ := pv30
          refine W.eq (g2 := F0 m 49 ls [.int xv29]) rfl ?_
          exact r_retI C hr hlk hM (⟨rfl, rfl, _, rfl, hF, hI, by omega⟩) dX12_rows_49
        · have tcv25 := eqT cv25
          refine lv_iconst (v := -1) hx hb dX12_rows_39 (by decide) ?_
          exact r_retI C hr hlk hM (⟨rfl, rfl, _, rfl, hF, hI, by omega⟩) dX12_rows_40
set_option maxHeartbeats 4000000 in
set_option maxRecDepth 100000 in
theorem c_X12_row (l : Launch) (D : gD) (H0 : gB) (h0 : Nat) (R : RS) (kc ns : Nat) (i0 i1 i2 i3 i4 : Int32) (hI : RI R)  : Met l yX12_row (wsU yX12_row cX12_row 7 (some .int)) ({ frames := 5, cells := 0, slots := 0, locals := 121 } : Room) (mP D H0 (rM h0 R) kc ns [.ref h0, .int i0, .int i1, .int i2, .int i3, .int i4]) (mQ D H0 gI (fun r S1 k1 n1 => kc = k1 ∧ ns = n1 ∧ ∃ R1, S1 = rM h0 R1 ∧ fr [39, 40, 41, 42, 43, 44] R R1 ∧ RI R1)) 0 0 (mF H0) := by
  refine r_met (own := RX12) (by decide +kernel) rfl (Nat.le_of_ble_eq_true rfl) ?_
  intro p e s m args below meth c C hr hlk hnm H ls hl hM
  obtain ⟨hx, hb, hml, hown, hts, -, -⟩ := id C
  have hl : lv_has ls 7 [(0, .ref h0), (1, .int i0), (2, .int i1), (3, .int i2), (4, .int i3), (5, .int i4)] := hl
  have hF : fr [39, 40, 41, 42, 43, 44] R R := fr.rf
  have hI0 := hI
  have t_m1 : (-1 : Int32).toInt = -1 := by decide
  have t_0 : (0 : Int32).toInt = 0 := by decide
  have t_20 : (20 : Int32).toInt = 20 := by decide
  refine lv_aload_n hx hb dX12_row_0 rfl (lv_at hl 0 rfl) ?_
  refine lv_iload_n hx hb dX12_row_1 rfl (lv_at hl 1 rfl) ?_
  refine lv_iload_n hx hb dX12_row_2 rfl (lv_at hl 2 rfl) ?_
  refine lv_iload_n hx hb dX12_row_3 rfl (lv_at hl 3 rfl) ?_
  refine lv_iload hx hb dX12_row_4 (lv_at hl 4 rfl) ?_
  refine r_V (As := [.int i0, .int i1, .int i2, .int i3]) (rest := []) (ci := 12) C hM (c_X12_rows l D H0 h0 R kc ns i0 i1 i2 i3 hI) i_X12_rows m_X12_310 rK0 rfl rfl rfl hl.1 rfl (Nat.le_of_ble_eq_true rfl) ⟨by decide, by decide⟩ ⟨by decide, by decide⟩ dX12_row_6 (fun xv4 Sv1 kv2 nv3 H locs pv5 hM => ?_)
  obtain ⟨rfl, rfl, Rv6, rfl, hf9, ⟨hI, hxv4⟩⟩ := pv5
  have hF : fr [39, 40, 41, 42, 43, 44] R Rv6 := hF.trans hf9 (by decide)
  refine W.eq (g2 := F0 m 9 ls [.int xv4]) rfl ?_
  refine lv_istore (lv' := [(6, .int xv4), (0, .ref h0), (1, .int i0), (2, .int i1), (3, .int i2), (4, .int i3), (5, .int i4)]) hx hb dX12_row_9 hl (by decide) rfl (fun ls hl => ?_)
  refine lv_iload hx hb dX12_row_11 (lv_at hl 6 rfl) ?_
  refine lv_if_lt (tgt := 23) hx hb dX12_row_13 (by decide) (fun cv7 => ?_) (fun cv7 => ?_)
  · have tcv7 := ltT cv7
    refine lv_iconst (v := -1) hx hb dX12_row_23 (by decide) ?_
    refine lv_goto (tgt := 37) hx hb dX12_row_24 (by decide) ?_
    exact r_retI C hr hlk hM (⟨rfl, rfl, _, rfl, hF, hI⟩) dX12_row_37
  · have tcv7 := ltF cv7
    refine lv_iload hx hb dX12_row_16 (lv_at hl 6 rfl) ?_
    refine lv_iload hx hb dX12_row_18 (lv_at hl 0 rfl) ?_
    refine lv_icmp_lt (tgt := 27) hx hb dX12_row_20 (by decide) (fun cv8 => ?_) (fun cv8 => ?_)
    · have tcv8 := ltT cv8
      refine lv_aload_n hx hb dX12_row_27 rfl (lv_at hl 1 rfl) ?_
      refine lv_bipush (v := 20) hx hb dX12_row_28 (by decide) ?_
      refine lv_iload hx hb dX12_row_30 (lv_at hl 5 rfl) ?_
      refine lv_iload hx hb dX12_row_32 (lv_at hl 6 rfl) ?_
      refine r_V (As := [.int 20, .int i3, .int i4]) (rest := []) (ci := 12) C hM (c_X12_rowOf l D H0 h0 Rv6 kc ns 20 i3 i4 hI (by omega) (by omega) (by omega) (by omega)) i_X12_rowOf m_X12_301 rK0 rfl rfl rfl hl.1 rfl (Nat.le_of_ble_eq_true rfl) ⟨by decide, by decide⟩ ⟨by decide, by decide⟩ dX12_row_34 (fun xv12 Sv9 kv10 nv11 H locs pv13 hM => ?_)
      obtain ⟨rfl, rfl, rfl, ⟨hwxv12, hxv12⟩⟩ := pv13
      refine W.eq (g2 := F0 m 37 ls [.int xv12]) rfl ?_
      exact r_retI C hr hlk hM (⟨rfl, rfl, _, rfl, hF, hI⟩) dX12_row_37
    · have tcv8 := ltF cv8
      refine lv_iconst (v := -1) hx hb dX12_row_23 (by decide) ?_
      refine lv_goto (tgt := 37) hx hb dX12_row_24 (by decide) ?_
      exact r_retI C hr hlk hM (⟨rfl, rfl, _, rfl, hF, hI⟩) dX12_row_37
