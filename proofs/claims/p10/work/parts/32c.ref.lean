set_option maxHeartbeats 4000000 in
set_option maxRecDepth 100000 in
theorem c_X12_copyPage (l : Launch) (D : gD) (H0 : gB) (h0 : Nat) (R : RS) (kc ns : Nat) (i0 i1 : Int32) (hI : RI R) (hP : PG R i0.toNatClampNeg) (a0 : 0 ≤ i0.toInt) (a1 : i0.toInt ≤ 30) (b0 : 0 ≤ i1.toInt) (b1 : i1.toInt < 30) (hne : i0.toInt ≠ i1.toInt) (ht : i1.toInt < 4 ∨ (i1.toInt = 4 + (rI R 36).toInt ∧ (rI R 36).toInt < 6) ∨ i1.toInt = 10 + (rI R 51).toInt)  : Met l yX12_copyPage (wsU yX12_copyPage cX12_copyPage 7 none) ({ frames := 1, cells := 0, slots := 0, locals := 21 } : Room) (mP D H0 (rM h0 R) kc ns [.ref h0, .int i0, .int i1]) (mQ D H0 gV (fun r S1 k1 n1 => kc = k1 ∧ ns = n1 ∧ ∃ R1, S1 = rM h0 R1 ∧ fr [10, 11, 12, 13, 14, 15, 16, 17, 18, 19, 20] R R1 ∧ RI R1 ∧ (∀ g, g ≠ i1.toNatClampNeg → rA R1 10 g = rA R 10 g) ∧ rA R1 10 i1.toNatClampNeg = rA R 10 i0.toNatClampNeg)) 0 0 (mF H0) := by
  refine r_met (own := RX12) (by decide +kernel) rfl (Nat.le_of_ble_eq_true rfl) ?_
  intro p e s m args below meth c C hr hlk hnm H ls hl hM
  obtain ⟨hx, hb, hml, hown, hts, -, -⟩ := id C
  have hl : lv_has ls 7 [(0, .ref h0), (1, .int i0), (2, .int i1)] := hl
  have hF : fr [10, 11, 12, 13, 14, 15, 16, 17, 18, 19, 20] R R := fr.rf
  have hI0 := hI
  have t_0 : (0 : Int32).toInt = 0 := by decide
  have t_1 : (1 : Int32).toInt = 1 := by decide
  have t_16 : (16 : Int32).toInt = 16 := by decide
  have fm0 := RI.many hI i0.toNatClampNeg
  have fs := RI.samples hI
  have fa9 := RI.acts hI
  refine lv_aload_n hx hb dX12_copyPage_0 rfl (lv_at hl 0 rfl) ?_
  refine rr_getA (k := 10) (j := 2) C hM f_X12_20 rfl rfl dX12_copyPage_1 ?_
  refine lv_iload_n hx hb dX12_copyPage_4 rfl (lv_at hl 2 rfl) ?_
  refine lv_aload_n hx hb dX12_copyPage_5 rfl (lv_at hl 0 rfl) ?_
  refine rr_getA (k := 10) (j := 2) C hM f_X12_20 rfl rfl dX12_copyPage_6 ?_
  refine lv_iload_n hx hb dX12_copyPage_9 rfl (lv_at hl 1 rfl) ?_
  refine rr_ldI (j := 2) (k := 10) (n := 31) (v := rA R 10 i0.toNatClampNeg) C hM rfl rfl rfl (inI (by omega) (by show _ < (31 : Int); omega)) rfl dX12_copyPage_10 ?_
  refine lv_topi (fun xv1 exv1 => ?_)
  have mxv1 : xv1.toInt = (rA R 10 i0.toNatClampNeg).toInt := by rw [exv1]
  refine rr_stI (j := 2) (k := 10) (n := 31) (i := i1) (x := xv1) C hM rfl rfl rfl (inI (by omega) (by show _ < (31 : Int); omega)) dX12_copyPage_11 (fun H locs hM => ?_)
  have hM : mH D H0 (rM h0 (uA R 10 i1.toNatClampNeg xv1)) kc ns H locs := hM
  have hF : fr [10, 11, 12, 13, 14, 15, 16, 17, 18, 19, 20] R (uA R 10 i1.toNatClampNeg xv1) := hF.A (by decide)
  have hC : CP R (uA R 10 i1.toNatClampNeg xv1) i0.toNatClampNeg i1.toNatClampNeg 0 := CP.start hI (by rw [exv1])
  refine lv_iconst (v := 0) hx hb dX12_copyPage_12 (by decide) ?_
  refine lv_istore_n (lv' := [(3, .int 0), (0, .ref h0), (1, .int i0), (2, .int i1)]) hx hb dX12_copyPage_13 rfl hl (by decide) rfl (fun ls hl => ?_)
  have loop14 : ∀ (fu : Nat) (pz : Int32) (Ra : RS) (H : Heap) (locs : List Loc) (ls : Array Slot), (fr [10, 11, 12, 13, 14, 15, 16, 17, 18, 19, 20] R Ra) → (CP R Ra i0.toNatClampNeg i1.toNatClampNeg pz.toNatClampNeg) → (0 ≤ pz.toInt ∧ pz.toInt ≤ 60) → (60 - pz.toInt).toNat < fu → lv_has ls 7 [(0, .ref h0), (1, .int i0), (2, .int i1), (3, .int pz)] → mH D H0 (rM h0 Ra) kc ns H locs → W p l e ({ frames := 1, cells := 0, slots := 0, locals := 21 } : Room) s m args below meth c H locs 0 0 (MQ below (mQ D H0 gV (fun r S1 k1 n1 => kc = k1 ∧ ns = n1 ∧ ∃ R1, S1 = rM h0 R1 ∧ fr [10, 11, 12, 13, 14, 15, 16, 17, 18, 19, 20] R R1 ∧ RI R1 ∧ (∀ g, g ≠ i1.toNatClampNeg → rA R1 10 g = rA R 10 g) ∧ rA R1 10 i1.toNatClampNeg = rA R 10 i0.toNatClampNeg)) args s 0 0 (mF H0)) (F0 m 14 ls []) := by
    intro fu
    induction fu with
    | zero => intro pz Ra H locs ls h14_0 h14_1 h14_2 hfu; exact absurd hfu (by omega)
    | succ fu ih14 =>
      intro pz Ra H locs ls h14_0 h14_1 h14_2 hfu hl hM
      have hF := h14_0
      have zm : (rA Ra 10 i0.toNatClampNeg).toInt = (rA R 10 i0.toNatClampNeg).toInt := by rw [h14_1.2.2]; exact congrArg Int32.toInt (u2n (by have h7 := clI (x := i0) (by omega); have h8 := clI (x := i1) (by omega); omega))
      refine lv_iload_n hx hb dX12_copyPage_14 rfl (lv_at hl 3 rfl) ?_
      refine lv_aload_n hx hb dX12_copyPage_15 rfl (lv_at hl 0 rfl) ?_
      refine rr_getA (k := 10) (j := 2) C hM f_X12_20 rfl rfl dX12_copyPage_16 ?_
      refine lv_iload_n hx hb dX12_copyPage_19 rfl (lv_at hl 1 rfl) ?_
      refine rr_ldI (j := 2) (k := 10) (n := 31) (v := rA Ra 10 i0.toNatClampNeg) C hM rfl rfl rfl (inI (by omega) (by show _ < (31 : Int); omega)) rfl dX12_copyPage_20 ?_
      refine lv_topi (fun xv2 exv2 => ?_)
      have mxv2 : xv2.toInt = (rA Ra 10 i0.toNatClampNeg).toInt := by rw [exv2]
      refine lv_icmp_ge (tgt := 217) hx hb dX12_copyPage_21 (by decide) (fun cv3 => ?_) (fun cv3 => ?_)
      · have tcv3 := leT cv3
        exact r_retV C hr hlk hM (⟨rfl, rfl, _, rfl, hF, CP.ri (n := pz.toNatClampNeg) hI hP h14_1 (by have h7 := clI (x := pz ) (by omega); omega) hF (by have h7 := clI (x := i1) (by omega); omega) (by have h7 := clI (x := i1) (by omega); omega) (by decide)⟩) dX12_copyPage_217
      · have tcv3 := leF cv3
        refine lv_iload_n hx hb dX12_copyPage_24 rfl (lv_at hl 1 rfl) ?_
        refine lv_iload_n hx hb dX12_copyPage_25 rfl (lv_at hl 3 rfl) ?_
        refine r_S (As := [.int i0, .int pz]) (rest := []) C hM (c_X12_spot l D H0 (rM h0 Ra) kc ns i0 pz (by omega) (by omega) (by omega) (by omega)) i_X12_spot m_X12_151 rfl hl.1 rfl (Nat.le_of_ble_eq_true rfl) ⟨by decide, by decide⟩ ⟨by decide, by decide⟩ dX12_copyPage_26 (fun xv7 Sv4 kv5 nv6 H locs pv8 hM => ?_)
        obtain ⟨rfl, rfl, rfl, hxv7⟩ := pv8
        refine W.eq (g2 := F0 m 29 ls [.int xv7]) rfl ?_
        refine lv_istore (lv' := [(4, .int xv7), (0, .ref h0), (1, .int i0), (2, .int i1), (3, .int pz)]) hx hb dX12_copyPage_29 hl (by decide) rfl (fun ls hl => ?_)
        refine lv_iload_n hx hb dX12_copyPage_31 rfl (lv_at hl 3 rfl) ?_
        refine lv_iload_n hx hb dX12_copyPage_32 rfl (lv_at hl 4 rfl) ?_
        refine r_S (As := [.int i1, .int pz]) (rest := []) C hM (c_X12_spot l D H0 (rM h0 Ra) kc ns i1 pz (by omega) (by omega) (by omega) (by omega)) i_X12_spot m_X12_151 rfl hl.1 rfl (Nat.le_of_ble_eq_true rfl) ⟨by decide, by decide⟩ ⟨by decide, by decide⟩ dX12_copyPage_33 (fun xv12 Sv9 kv10 nv11 H locs pv13 hM => ?_)
        obtain ⟨rfl, rfl, rfl, hxv12⟩ := pv13
        refine W.eq (g2 := F0 m 36 ls [.int xv12]) rfl ?_
        refine lv_istore (lv' := [(5, .int xv12), (4, .int xv7), (0, .ref h0), (1, .int i0), (2, .int i1), (3, .int pz)]) hx hb dX12_copyPage_36 hl (by decide) rfl (fun ls hl => ?_)
        refine lv_aload_n hx hb dX12_copyPage_38 rfl (lv_at hl 2 rfl) ?_
        refine rr_getA (k := 11) (j := 3) C hM f_X12_24 rfl rfl dX12_copyPage_39 ?_
        refine lv_iload hx hb dX12_copyPage_42 (lv_at hl 0 rfl) ?_
        refine lv_aload_n hx hb dX12_copyPage_44 rfl (lv_at hl 2 rfl) ?_
        refine rr_getA (k := 11) (j := 3) C hM f_X12_24 rfl rfl dX12_copyPage_45 ?_
        refine lv_iload hx hb dX12_copyPage_48 (lv_at hl 1 rfl) ?_
        refine rr_ldI (j := 3) (k := 11) (n := 1860) (v := rA Ra 11 xv7.toNatClampNeg) C hM rfl rfl rfl (inI (by omega) (by show _ < (1860 : Int); omega)) rfl dX12_copyPage_50 ?_
        refine lv_topi (fun xv14 exv14 => ?_)
        refine rr_stI (j := 3) (k := 11) (n := 1860) (i := xv12) (x := xv14) C hM rfl rfl rfl (inI (by omega) (by show _ < (1860 : Int); omega)) dX12_copyPage_51 (fun H locs hM => ?_)
        have hM : mH D H0 (rM h0 (uA Ra 11 xv12.toNatClampNeg xv14)) kc ns H locs := hM
        have hF : fr [10, 11, 12, 13, 14, 15, 16, 17, 18, 19, 20] R (uA Ra 11 xv12.toNatClampNeg xv14) := hF.A (by decide)
        refine lv_aload_n hx hb dX12_copyPage_52 rfl (lv_at hl 2 rfl) ?_
        refine rr_getA (k := 12) (j := 4) C hM f_X12_27 rfl rfl dX12_copyPage_53 ?_
        refine lv_iload hx hb dX12_copyPage_56 (lv_at hl 0 rfl) ?_
        refine lv_aload_n hx hb dX12_copyPage_58 rfl (lv_at hl 2 rfl) ?_
        refine rr_getA (k := 12) (j := 4) C hM f_X12_27 rfl rfl dX12_copyPage_59 ?_
        refine lv_iload hx hb dX12_copyPage_62 (lv_at hl 1 rfl) ?_
        refine rr_ldI (j := 4) (k := 12) (n := 1860) (v := rA Ra 12 xv7.toNatClampNeg) C hM rfl rfl rfl (inI (by omega) (by show _ < (1860 : Int); omega)) rfl dX12_copyPage_64 ?_
        refine lv_topi (fun xv15 exv15 => ?_)
        refine rr_stI (j := 4) (k := 12) (n := 1860) (i := xv12) (x := xv15) C hM rfl rfl rfl (inI (by omega) (by show _ < (1860 : Int); omega)) dX12_copyPage_65 (fun H locs hM => ?_)
        have hM : mH D H0 (rM h0 (uA (uA Ra 11 xv12.toNatClampNeg xv14) 12 xv12.toNatClampNeg xv15)) kc ns H locs := hM
        have hF : fr [10, 11, 12, 13, 14, 15, 16, 17, 18, 19, 20] R (uA (uA Ra 11 xv12.toNatClampNeg xv14) 12 xv12.toNatClampNeg xv15) := hF.A (by decide)
        refine lv_aload_n hx hb dX12_copyPage_66 rfl (lv_at hl 2 rfl) ?_
        refine rr_getA (k := 13) (j := 5) C hM f_X12_30 rfl rfl dX12_copyPage_67 ?_
        refine lv_iload hx hb dX12_copyPage_70 (lv_at hl 0 rfl) ?_
        refine lv_aload_n hx hb dX12_copyPage_72 rfl (lv_at hl 2 rfl) ?_
        refine rr_getA (k := 13) (j := 5) C hM f_X12_30 rfl rfl dX12_copyPage_73 ?_
        refine lv_iload hx hb dX12_copyPage_76 (lv_at hl 1 rfl) ?_
        refine rr_ldI (j := 5) (k := 13) (n := 1860) (v := rA Ra 13 xv7.toNatClampNeg) C hM rfl rfl rfl (inI (by omega) (by show _ < (1860 : Int); omega)) rfl dX12_copyPage_78 ?_
        refine lv_topi (fun xv16 exv16 => ?_)
        refine rr_stI (j := 5) (k := 13) (n := 1860) (i := xv12) (x := xv16) C hM rfl rfl rfl (inI (by omega) (by show _ < (1860 : Int); omega)) dX12_copyPage_79 (fun H locs hM => ?_)
        have hM : mH D H0 (rM h0 (uA (uA (uA Ra 11 xv12.toNatClampNeg xv14) 12 xv12.toNatClampNeg xv15) 13 xv12.toNatClampNeg xv16)) kc ns H locs := hM
        have hF : fr [10, 11, 12, 13, 14, 15, 16, 17, 18, 19, 20] R (uA (uA (uA Ra 11 xv12.toNatClampNeg xv14) 12 xv12.toNatClampNeg xv15) 13 xv12.toNatClampNeg xv16) := hF.A (by decide)
        refine lv_aload_n hx hb dX12_copyPage_80 rfl (lv_at hl 2 rfl) ?_
        refine rr_getA (k := 14) (j := 6) C hM f_X12_33 rfl rfl dX12_copyPage_81 ?_
        refine lv_iload hx hb dX12_copyPage_84 (lv_at hl 0 rfl) ?_
        refine lv_aload_n hx hb dX12_copyPage_86 rfl (lv_at hl 2 rfl) ?_
        refine rr_getA (k := 14) (j := 6) C hM f_X12_33 rfl rfl dX12_copyPage_87 ?_
        refine lv_iload hx hb dX12_copyPage_90 (lv_at hl 1 rfl) ?_
        refine rr_ldI (j := 6) (k := 14) (n := 1860) (v := rA Ra 14 xv7.toNatClampNeg) C hM rfl rfl rfl (inI (by omega) (by show _ < (1860 : Int); omega)) rfl dX12_copyPage_92 ?_
        refine lv_topi (fun xv17 exv17 => ?_)
        refine rr_stI (j := 6) (k := 14) (n := 1860) (i := xv12) (x := xv17) C hM rfl rfl rfl (inI (by omega) (by show _ < (1860 : Int); omega)) dX12_copyPage_93 (fun H locs hM => ?_)
        have hM : mH D H0 (rM h0 (uA (uA (uA (uA Ra 11 xv12.toNatClampNeg xv14) 12 xv12.toNatClampNeg xv15) 13 xv12.toNatClampNeg xv16) 14 xv12.toNatClampNeg xv17)) kc ns H locs := hM
        have hF : fr [10, 11, 12, 13, 14, 15, 16, 17, 18, 19, 20] R (uA (uA (uA (uA Ra 11 xv12.toNatClampNeg xv14) 12 xv12.toNatClampNeg xv15) 13 xv12.toNatClampNeg xv16) 14 xv12.toNatClampNeg xv17) := hF.A (by decide)
        refine lv_aload_n hx hb dX12_copyPage_94 rfl (lv_at hl 2 rfl) ?_
        refine rr_getA (k := 15) (j := 7) C hM f_X12_36 rfl rfl dX12_copyPage_95 ?_
        refine lv_iload hx hb dX12_copyPage_98 (lv_at hl 0 rfl) ?_
        refine lv_aload_n hx hb dX12_copyPage_100 rfl (lv_at hl 2 rfl) ?_
        refine rr_getA (k := 15) (j := 7) C hM f_X12_36 rfl rfl dX12_copyPage_101 ?_
        refine lv_iload hx hb dX12_copyPage_104 (lv_at hl 1 rfl) ?_
        refine rr_ldI (j := 7) (k := 15) (n := 1860) (v := rA Ra 15 xv7.toNatClampNeg) C hM rfl rfl rfl (inI (by omega) (by show _ < (1860 : Int); omega)) rfl dX12_copyPage_106 ?_
        refine lv_topi (fun xv18 exv18 => ?_)
        refine rr_stI (j := 7) (k := 15) (n := 1860) (i := xv12) (x := xv18) C hM rfl rfl rfl (inI (by omega) (by show _ < (1860 : Int); omega)) dX12_copyPage_107 (fun H locs hM => ?_)
        have hM : mH D H0 (rM h0 (uA (uA (uA (uA (uA Ra 11 xv12.toNatClampNeg xv14) 12 xv12.toNatClampNeg xv15) 13 xv12.toNatClampNeg xv16) 14 xv12.toNatClampNeg xv17) 15 xv12.toNatClampNeg xv18)) kc ns H locs := hM
        have hF : fr [10, 11, 12, 13, 14, 15, 16, 17, 18, 19, 20] R (uA (uA (uA (uA (uA Ra 11 xv12.toNatClampNeg xv14) 12 xv12.toNatClampNeg xv15) 13 xv12.toNatClampNeg xv16) 14 xv12.toNatClampNeg xv17) 15 xv12.toNatClampNeg xv18) := hF.A (by decide)
        refine lv_aload_n hx hb dX12_copyPage_108 rfl (lv_at hl 2 rfl) ?_
        refine rr_getA (k := 16) (j := 8) C hM f_X12_39 rfl rfl dX12_copyPage_109 ?_
        refine lv_iload hx hb dX12_copyPage_112 (lv_at hl 0 rfl) ?_
        refine lv_aload_n hx hb dX12_copyPage_114 rfl (lv_at hl 2 rfl) ?_
        refine rr_getA (k := 16) (j := 8) C hM f_X12_39 rfl rfl dX12_copyPage_115 ?_
        refine lv_iload hx hb dX12_copyPage_118 (lv_at hl 1 rfl) ?_
        refine rr_ldI (j := 8) (k := 16) (n := 1860) (v := rA Ra 16 xv7.toNatClampNeg) C hM rfl rfl rfl (inI (by omega) (by show _ < (1860 : Int); omega)) rfl dX12_copyPage_120 ?_
        refine lv_topi (fun xv19 exv19 => ?_)
        refine rr_stI (j := 8) (k := 16) (n := 1860) (i := xv12) (x := xv19) C hM rfl rfl rfl (inI (by omega) (by show _ < (1860 : Int); omega)) dX12_copyPage_121 (fun H locs hM => ?_)
        have hM : mH D H0 (rM h0 (uA (uA (uA (uA (uA (uA Ra 11 xv12.toNatClampNeg xv14) 12 xv12.toNatClampNeg xv15) 13 xv12.toNatClampNeg xv16) 14 xv12.toNatClampNeg xv17) 15 xv12.toNatClampNeg xv18) 16 xv12.toNatClampNeg xv19)) kc ns H locs := hM
        have hF : fr [10, 11, 12, 13, 14, 15, 16, 17, 18, 19, 20] R (uA (uA (uA (uA (uA (uA Ra 11 xv12.toNatClampNeg xv14) 12 xv12.toNatClampNeg xv15) 13 xv12.toNatClampNeg xv16) 14 xv12.toNatClampNeg xv17) 15 xv12.toNatClampNeg xv18) 16 xv12.toNatClampNeg xv19) := hF.A (by decide)
        refine lv_aload_n hx hb dX12_copyPage_122 rfl (lv_at hl 2 rfl) ?_
        refine rr_getA (k := 17) (j := 9) C hM f_X12_42 rfl rfl dX12_copyPage_123 ?_
        refine lv_iload hx hb dX12_copyPage_126 (lv_at hl 0 rfl) ?_
        refine lv_aload_n hx hb dX12_copyPage_128 rfl (lv_at hl 2 rfl) ?_
        refine rr_getA (k := 17) (j := 9) C hM f_X12_42 rfl rfl dX12_copyPage_129 ?_
        refine lv_iload hx hb dX12_copyPage_132 (lv_at hl 1 rfl) ?_
        refine rr_ldJ (j := 9) (k := 17) (n := 1860) (v := rB Ra 17 xv7.toNatClampNeg) C hM rfl rfl rfl (inI (by omega) (by show _ < (1860 : Int); omega)) rfl dX12_copyPage_134 ?_
        refine lv_topl (fun lv20 elv20 => ?_)
        refine rr_stJ (j := 9) (k := 17) (n := 1860) (i := xv12) (x := (lv20 : Int64)) C hM rfl rfl rfl (inI (by omega) (by show _ < (1860 : Int); omega)) dX12_copyPage_135 (fun H locs hM => ?_)
        have hM : mH D H0 (rM h0 (uB (uA (uA (uA (uA (uA (uA Ra 11 xv12.toNatClampNeg xv14) 12 xv12.toNatClampNeg xv15) 13 xv12.toNatClampNeg xv16) 14 xv12.toNatClampNeg xv17) 15 xv12.toNatClampNeg xv18) 16 xv12.toNatClampNeg xv19) 17 xv12.toNatClampNeg (lv20 : Int64))) kc ns H locs := hM
        have hF : fr [10, 11, 12, 13, 14, 15, 16, 17, 18, 19, 20] R (uB (uA (uA (uA (uA (uA (uA Ra 11 xv12.toNatClampNeg xv14) 12 xv12.toNatClampNeg xv15) 13 xv12.toNatClampNeg xv16) 14 xv12.toNatClampNeg xv17) 15 xv12.toNatClampNeg xv18) 16 xv12.toNatClampNeg xv19) 17 xv12.toNatClampNeg (lv20 : Int64)) := hF.B (by decide)
        refine lv_aload_n hx hb dX12_copyPage_136 rfl (lv_at hl 2 rfl) ?_
        refine rr_getA (k := 18) (j := 10) C hM f_X12_46 rfl rfl dX12_copyPage_137 ?_
        refine lv_iload hx hb dX12_copyPage_140 (lv_at hl 0 rfl) ?_
        refine lv_aload_n hx hb dX12_copyPage_142 rfl (lv_at hl 2 rfl) ?_
        refine rr_getA (k := 18) (j := 10) C hM f_X12_46 rfl rfl dX12_copyPage_143 ?_
        refine lv_iload hx hb dX12_copyPage_146 (lv_at hl 1 rfl) ?_
        refine rr_ldJ (j := 10) (k := 18) (n := 1860) (v := rB Ra 18 xv7.toNatClampNeg) C hM rfl rfl rfl (inI (by omega) (by show _ < (1860 : Int); omega)) rfl dX12_copyPage_148 ?_
        refine lv_topl (fun lv21 elv21 => ?_)
        refine rr_stJ (j := 10) (k := 18) (n := 1860) (i := xv12) (x := (lv21 : Int64)) C hM rfl rfl rfl (inI (by omega) (by show _ < (1860 : Int); omega)) dX12_copyPage_149 (fun H locs hM => ?_)
        have hM : mH D H0 (rM h0 (uB (uB (uA (uA (uA (uA (uA (uA Ra 11 xv12.toNatClampNeg xv14) 12 xv12.toNatClampNeg xv15) 13 xv12.toNatClampNeg xv16) 14 xv12.toNatClampNeg xv17) 15 xv12.toNatClampNeg xv18) 16 xv12.toNatClampNeg xv19) 17 xv12.toNatClampNeg (lv20 : Int64)) 18 xv12.toNatClampNeg (lv21 : Int64))) kc ns H locs := hM
        have hF : fr [10, 11, 12, 13, 14, 15, 16, 17, 18, 19, 20] R (uB (uB (uA (uA (uA (uA (uA (uA Ra 11 xv12.toNatClampNeg xv14) 12 xv12.toNatClampNeg xv15) 13 xv12.toNatClampNeg xv16) 14 xv12.toNatClampNeg xv17) 15 xv12.toNatClampNeg xv18) 16 xv12.toNatClampNeg xv19) 17 xv12.toNatClampNeg (lv20 : Int64)) 18 xv12.toNatClampNeg (lv21 : Int64)) := hF.B (by decide)
        refine lv_aload_n hx hb dX12_copyPage_150 rfl (lv_at hl 2 rfl) ?_
        refine rr_getA (k := 19) (j := 11) C hM f_X12_49 rfl rfl dX12_copyPage_151 ?_
        refine lv_iload hx hb dX12_copyPage_154 (lv_at hl 0 rfl) ?_
        refine lv_aload_n hx hb dX12_copyPage_156 rfl (lv_at hl 2 rfl) ?_
        refine rr_getA (k := 19) (j := 11) C hM f_X12_49 rfl rfl dX12_copyPage_157 ?_
        refine lv_iload hx hb dX12_copyPage_160 (lv_at hl 1 rfl) ?_
        refine rr_ldZ (j := 11) (k := 19) (n := 1860) (v := rA Ra 19 xv7.toNatClampNeg) C hM rfl rfl rfl (inI (by omega) (by show _ < (1860 : Int); omega)) rfl dX12_copyPage_162 ?_
        refine lv_topi (fun xv22 exv22 => ?_)
        refine rr_stZ (j := 11) (k := 19) (n := 1860) (i := xv12) (x := xv22) C hM rfl rfl rfl (inI (by omega) (by show _ < (1860 : Int); omega)) dX12_copyPage_163 (fun H locs hM => ?_)
        have hM : mH D H0 (rM h0 (uA (uB (uB (uA (uA (uA (uA (uA (uA Ra 11 xv12.toNatClampNeg xv14) 12 xv12.toNatClampNeg xv15) 13 xv12.toNatClampNeg xv16) 14 xv12.toNatClampNeg xv17) 15 xv12.toNatClampNeg xv18) 16 xv12.toNatClampNeg xv19) 17 xv12.toNatClampNeg (lv20 : Int64)) 18 xv12.toNatClampNeg (lv21 : Int64)) 19 xv12.toNatClampNeg (vp_nar .boolean xv22))) kc ns H locs := hM
        have hF : fr [10, 11, 12, 13, 14, 15, 16, 17, 18, 19, 20] R (uA (uB (uB (uA (uA (uA (uA (uA (uA Ra 11 xv12.toNatClampNeg xv14) 12 xv12.toNatClampNeg xv15) 13 xv12.toNatClampNeg xv16) 14 xv12.toNatClampNeg xv17) 15 xv12.toNatClampNeg xv18) 16 xv12.toNatClampNeg xv19) 17 xv12.toNatClampNeg (lv20 : Int64)) 18 xv12.toNatClampNeg (lv21 : Int64)) 19 xv12.toNatClampNeg (vp_nar .boolean xv22)) := hF.A (by decide)
        have hC : CP R (uA (uB (uB (uA (uA (uA (uA (uA (uA Ra 11 xv12.toNatClampNeg xv14) 12 xv12.toNatClampNeg xv15) 13 xv12.toNatClampNeg xv16) 14 xv12.toNatClampNeg xv17) 15 xv12.toNatClampNeg xv18) 16 xv12.toNatClampNeg xv19) 17 xv12.toNatClampNeg (lv20 : Int64)) 18 xv12.toNatClampNeg (lv21 : Int64)) 19 xv12.toNatClampNeg (vp_nar .boolean xv22)) i0.toNatClampNeg i1.toNatClampNeg (pz.toNatClampNeg + 1) := CP.step (Ra := Ra) (a := xv7.toNatClampNeg) (b := xv12.toNatClampNeg) h14_1 (by have h7 := clI (x := pz ) (by omega); omega) (by have h7 := clI (x := i0) (by omega); have h8 := clI (x := i1) (by omega); omega) (by have h7 := clI (x := i0) (by omega); have h8 := clI (x := i1) (by omega); have h9 := clI (x := pz ) (by omega); have h10 := clI (x := xv7 ) (by omega); omega) (by have h7 := clI (x := i0) (by omega); have h8 := clI (x := i1) (by omega); have h9 := clI (x := pz ) (by omega); have h10 := clI (x := xv12 ) (by omega); omega) exv14 exv15 exv17 exv18 rfl rfl rfl rfl rfl
        refine lv_iconst (v := 0) hx hb dX12_copyPage_164 (by decide) ?_
        refine lv_istore (lv' := [(6, .int 0), (5, .int xv12), (4, .int xv7), (0, .ref h0), (1, .int i0), (2, .int i1), (3, .int pz)]) hx hb dX12_copyPage_165 hl (by decide) rfl (fun ls hl => ?_)
        have loop167 : ∀ (fu : Nat) (kz : Int32) (Rb : RS) (H : Heap) (locs : List Loc) (ls : Array Slot), (fr [10, 11, 12, 13, 14, 15, 16, 17, 18, 19, 20] R Rb) → (CP R Rb i0.toNatClampNeg i1.toNatClampNeg (pz.toNatClampNeg + 1)) → (0 ≤ kz.toInt ∧ kz.toInt ≤ 16) → (16 - kz.toInt).toNat < fu → lv_has ls 7 [(0, .ref h0), (1, .int i0), (2, .int i1), (3, .int pz), (4, .int xv7), (5, .int xv12), (6, .int kz)] → mH D H0 (rM h0 Rb) kc ns H locs → W p l e ({ frames := 1, cells := 0, slots := 0, locals := 21 } : Room) s m args below meth c H locs 0 0 (MQ below (mQ D H0 gV (fun r S1 k1 n1 => kc = k1 ∧ ns = n1 ∧ ∃ R1, S1 = rM h0 R1 ∧ fr [10, 11, 12, 13, 14, 15, 16, 17, 18, 19, 20] R R1 ∧ RI R1 ∧ (∀ g, g ≠ i1.toNatClampNeg → rA R1 10 g = rA R 10 g) ∧ rA R1 10 i1.toNatClampNeg = rA R 10 i0.toNatClampNeg)) args s 0 0 (mF H0)) (F0 m 167 ls []) := by
          intro fu
          induction fu with
          | zero => intro kz Rb H locs ls h167_0 h167_1 h167_2 hfu; exact absurd hfu (by omega)
          | succ fu ih167 =>
            intro kz Rb H locs ls h167_0 h167_1 h167_2 hfu hl hM
            have hF := h167_0
            refine lv_iload hx hb dX12_copyPage_167 (lv_at hl 6 rfl) ?_
            refine lv_aload_n hx hb dX12_copyPage_169 rfl (lv_at hl 0 rfl) ?_
            refine rr_getA (k := 15) (j := 7) C hM f_X12_36 rfl rfl dX12_copyPage_170 ?_
            refine lv_iload hx hb dX12_copyPage_173 (lv_at hl 4 rfl) ?_
            refine rr_ldI (j := 7) (k := 15) (n := 1860) (v := rA Rb 15 xv7.toNatClampNeg) C hM rfl rfl rfl (inI (by omega) (by show _ < (1860 : Int); omega)) rfl dX12_copyPage_175 ?_
            refine lv_topi (fun xv23 exv23 => ?_)
            have fwxv23 : xv23.toInt ≤ 16 := by rw [exv23]; exact h167_1.2.1 _
            refine lv_icmp_ge (tgt := 211) hx hb dX12_copyPage_176 (by decide) (fun cv24 => ?_) (fun cv24 => ?_)
            · have tcv24 := leT cv24
              obtain ⟨xv25, exv25⟩ : ∃ y : Int32, y = pz + 1 := ⟨_, rfl⟩
              try (have txv25 := addI (a := pz) (b := 1) (by omega) (by omega); rw [← exv25] at txv25)
              refine lv_iinc (v := xv25) (lv' := [(3, .int xv25), (0, .ref h0), (1, .int i0), (2, .int i1), (4, .int xv7), (5, .int xv12), (6, .int kz)]) hx hb dX12_copyPage_211 hl (k := 3) rfl (by rw [exv25]; rfl) (by decide) rfl (fun ls hl => ?_)
              refine lv_goto (tgt := 14) hx hb dX12_copyPage_214 (by decide) ?_
              exact ih14 xv25 Rb _ _ _ (hF) (by have h7 := clI (x := pz) (by omega); have h8 := clI (x := xv25 ) (by omega); rw [show xv25.toNatClampNeg = pz.toNatClampNeg + 1 by omega]; exact h167_1) (by omega) (by omega) (lv_sub hl [1, 2, 3, 0] rfl) hM
            · have tcv24 := leF cv24
              refine lv_aload_n hx hb dX12_copyPage_179 rfl (lv_at hl 0 rfl) ?_
              refine rr_getA (k := 20) (j := 12) C hM f_X12_53 rfl rfl dX12_copyPage_180 ?_
              refine lv_bipush (v := 16) hx hb dX12_copyPage_183 (by decide) ?_
              refine lv_iload hx hb dX12_copyPage_185 (lv_at hl 5 rfl) ?_
              refine lv_imul hx hb dX12_copyPage_187 ?_
              refine lv_topi (fun xv26 exv26 => ?_)
              try (have txv26 := mulD (a := xv12) (k := 16) (n := 16) (by decide) (by omega) (by omega); rw [← exv26] at txv26)
              refine lv_iload hx hb dX12_copyPage_188 (lv_at hl 6 rfl) ?_
              refine lv_iadd hx hb dX12_copyPage_190 ?_
              refine lv_topi (fun xv27 exv27 => ?_)
              try (have txv27 := addI (a := xv26) (b := kz) (by omega) (by omega); rw [← exv27] at txv27)
              refine lv_aload_n hx hb dX12_copyPage_191 rfl (lv_at hl 0 rfl) ?_
              refine rr_getA (k := 20) (j := 12) C hM f_X12_53 rfl rfl dX12_copyPage_192 ?_
              refine lv_bipush (v := 16) hx hb dX12_copyPage_195 (by decide) ?_
              refine lv_iload hx hb dX12_copyPage_197 (lv_at hl 4 rfl) ?_
              refine lv_imul hx hb dX12_copyPage_199 ?_
              refine lv_topi (fun xv28 exv28 => ?_)
              try (have txv28 := mulD (a := xv7) (k := 16) (n := 16) (by decide) (by omega) (by omega); rw [← exv28] at txv28)
              refine lv_iload hx hb dX12_copyPage_200 (lv_at hl 6 rfl) ?_
              refine lv_iadd hx hb dX12_copyPage_202 ?_
              refine lv_topi (fun xv29 exv29 => ?_)
              try (have txv29 := addI (a := xv28) (b := kz) (by omega) (by omega); rw [← exv29] at txv29)
              refine rr_ldB (j := 12) (k := 20) (n := 29760) (v := rA Rb 20 xv29.toNatClampNeg) C hM rfl rfl rfl (inI (by omega) (by show _ < (29760 : Int); omega)) rfl dX12_copyPage_203 ?_
              refine lv_topi (fun xv30 exv30 => ?_)
              refine rr_stB (j := 12) (k := 20) (n := 29760) (i := xv27) (x := xv30) C hM rfl rfl rfl (inI (by omega) (by show _ < (29760 : Int); omega)) dX12_copyPage_204 (fun H locs hM => ?_)
              have hM : mH D H0 (rM h0 (uA Rb 20 xv27.toNatClampNeg (vp_nar .byte xv30))) kc ns H locs := hM
              have hF : fr [10, 11, 12, 13, 14, 15, 16, 17, 18, 19, 20] R (uA Rb 20 xv27.toNatClampNeg (vp_nar .byte xv30)) := hF.A (by decide)
              obtain ⟨xv31, exv31⟩ : ∃ y : Int32, y = kz + 1 := ⟨_, rfl⟩
              try (have txv31 := addI (a := kz) (b := 1) (by omega) (by omega); rw [← exv31] at txv31)
              refine lv_iinc (v := xv31) (lv' := [(6, .int xv31), (0, .ref h0), (1, .int i0), (2, .int i1), (3, .int pz), (4, .int xv7), (5, .int xv12)]) hx hb dX12_copyPage_205 hl (k := 6) rfl (by rw [exv31]; rfl) (by decide) rfl (fun ls hl => ?_)
              refine lv_goto (tgt := 167) hx hb dX12_copyPage_208 (by decide) ?_
              exact ih167 xv31 (uA Rb 20 xv27.toNatClampNeg (vp_nar .byte xv30)) _ _ _ (hF) (h167_1.fr (L := [20]) (fr.rf.A (by decide)) (by decide)) (by omega) (by omega) (lv_sub hl [1, 2, 3, 4, 5, 6, 0] rfl) hM
        exact loop167 (((16 - (0 : Int32).toInt).toNat) + 1) 0 (uA (uB (uB (uA (uA (uA (uA (uA (uA Ra 11 xv12.toNatClampNeg xv14) 12 xv12.toNatClampNeg xv15) 13 xv12.toNatClampNeg xv16) 14 xv12.toNatClampNeg xv17) 15 xv12.toNatClampNeg xv18) 16 xv12.toNatClampNeg xv19) 17 xv12.toNatClampNeg (lv20 : Int64)) 18 xv12.toNatClampNeg (lv21 : Int64)) 19 xv12.toNatClampNeg (vp_nar .boolean xv22)) _ _ _ (hF) (hC) (by omega) (by omega) (lv_sub hl [3, 4, 5, 6, 2, 1, 0] rfl) hM
  exact loop14 (((60 - (0 : Int32).toInt).toNat) + 1) 0 (uA R 10 i1.toNatClampNeg xv1) _ _ _ (hF) (hC) (by omega) (by omega) (lv_sub hl [1, 2, 3, 0] rfl) hM
set_option maxHeartbeats 4000000 in
set_option maxRecDepth 100000 in
theorem c_X12_page (l : Launch) (D : gD) (H0 : gB) (h0 : Nat) (R : RS) (kc ns : Nat) (i0 : Int32) (hI : RI R)  : Met l yX12_page (wsU yX12_page cX12_page 3 (some .int)) ({ frames := 4, cells := 0, slots := 0, locals := 87 } : Room) (mP D H0 (rM h0 R) kc ns [.ref h0, .int i0]) (mQ D H0 gI (fun r S1 k1 n1 => kc = k1 ∧ ns = n1 ∧ ∃ R1, S1 = rM h0 R1 ∧ fr [1, 2, 3, 4, 5, 6, 7, 8, 9, 10, 11, 12, 13, 14, 15, 16, 17, 18, 19, 20, 21, 22] R R1 ∧ RI R1 ∧ ((0 ≤ i0.toInt ∧ i0.toInt < 4 ∧ (rI R1 2).toInt = 0) ∨ ((i0.toInt < 0 ∨ 4 ≤ i0.toInt) ∧ (rI R1 2).toInt = (rI R 2).toInt)))) 0 0 (mF H0) := by
  refine r_met (own := RX12) (by decide +kernel) rfl (Nat.le_of_ble_eq_true rfl) ?_
  intro p e s m args below meth c C hr hlk hnm H ls hl hM
  obtain ⟨hx, hb, hml, hown, hts, -, -⟩ := id C
  have hl : lv_has ls 3 [(0, .ref h0), (1, .int i0)] := hl
  have hF : fr [1, 2, 3, 4, 5, 6, 7, 8, 9, 10, 11, 12, 13, 14, 15, 16, 17, 18, 19, 20, 21, 22] R R := fr.rf
  have hI0 := hI
  have t_m2 : (-2 : Int32).toInt = -2 := by decide
  have t_m1 : (-1 : Int32).toInt = -1 := by decide
  have t_0 : (0 : Int32).toInt = 0 := by decide
  have t_1 : (1 : Int32).toInt = 1 := by decide
  have t_30 : (30 : Int32).toInt = 30 := by decide
  refine lv_iload_n hx hb dX12_page_0 rfl (lv_at hl 1 rfl) ?_
  refine r_S (As := [.int i0]) (rest := []) C hM (c_X12_isShelf l D H0 (rM h0 R) kc ns i0) i_X12_isShelf m_X12_168 rfl hl.1 rfl (Nat.le_of_ble_eq_true rfl) ⟨by decide, by decide⟩ ⟨by decide, by decide⟩ dX12_page_1 (fun xv4 Sv1 kv2 nv3 H locs pv5 hM => ?_)
  obtain ⟨rfl, rfl, rfl, hxv4⟩ := pv5
  refine W.eq (g2 := F0 m 4 ls [.int xv4]) rfl ?_
  refine lv_if_ne (tgt := 10) hx hb dX12_page_4 (by decide) (fun cv6 => ?_) (fun cv6 => ?_)
  · have tcv6 := eqF cv6
    refine lv_aload_n hx hb dX12_page_10 rfl (lv_at hl 0 rfl) ?_
    refine lv_iconst (v := 0) hx hb dX12_page_11 (by decide) ?_
    refine rr_putI (k := 4) (v := (0 : Int32)) C hM f_X12_113 rfl (fun r h => by cases h; rfl) rfl dX12_page_12 (fun H locs hM => ?_)
    have hM : mH D H0 (rM h0 (uI R 4 (0 : Int32))) kc ns H locs := hM
    have hF : fr [1, 2, 3, 4, 5, 6, 7, 8, 9, 10, 11, 12, 13, 14, 15, 16, 17, 18, 19, 20, 21, 22] R (uI R 4 (0 : Int32)) := hF.I (by decide)
    have hI : RI (uI R 4 (0 : Int32)) := hI.fr (L := [4]) (fr.rf.I (by decide)) (by decide)
    refine lv_aload_n hx hb dX12_page_15 rfl (lv_at hl 0 rfl) ?_
    refine lv_iconst (v := -1) hx hb dX12_page_16 (by decide) ?_
    refine rr_putI (k := 5) (v := (-1 : Int32)) C hM f_X12_16 rfl (fun r h => by cases h; rfl) rfl dX12_page_17 (fun H locs hM => ?_)
    have hM : mH D H0 (rM h0 (uI (uI R 4 (0 : Int32)) 5 (-1 : Int32))) kc ns H locs := hM
    have hF : fr [1, 2, 3, 4, 5, 6, 7, 8, 9, 10, 11, 12, 13, 14, 15, 16, 17, 18, 19, 20, 21, 22] R (uI (uI R 4 (0 : Int32)) 5 (-1 : Int32)) := hF.I (by decide)
    have hI : RI (uI (uI R 4 (0 : Int32)) 5 (-1 : Int32)) := hI.fr (L := [5]) (fr.rf.I (by decide)) (by decide)
    refine lv_aload_n hx hb dX12_page_20 rfl (lv_at hl 0 rfl) ?_
    refine lv_aload_n hx hb dX12_page_21 rfl (lv_at hl 0 rfl) ?_
    refine rr_getI (k := 2) (v := rI R 2) C hM f_X12_171 rfl rfl dX12_page_22 ?_
    refine lv_topi (fun xv7 exv7 => ?_)
    have mxv7 : xv7.toInt = (rI R 2).toInt := by rw [exv7]
    have fxv7 : 0 ≤ xv7.toInt ∧ xv7.toInt ≤ 1600 := by rw [exv7]; exact RI.taped hI
    refine rr_putI (k := 3) (v := xv7) C hM f_X12_110 rfl (fun r h => by cases h; rfl) rfl dX12_page_25 (fun H locs hM => ?_)
    have hM : mH D H0 (rM h0 (uI (uI (uI R 4 (0 : Int32)) 5 (-1 : Int32)) 3 xv7)) kc ns H locs := hM
    have hF : fr [1, 2, 3, 4, 5, 6, 7, 8, 9, 10, 11, 12, 13, 14, 15, 16, 17, 18, 19, 20, 21, 22] R (uI (uI (uI R 4 (0 : Int32)) 5 (-1 : Int32)) 3 xv7) := hF.I (by decide)
    have hI : RI (uI (uI (uI R 4 (0 : Int32)) 5 (-1 : Int32)) 3 xv7) := hI.st3 (by omega)
    refine lv_iconst (v := 0) hx hb dX12_page_28 (by decide) ?_
    refine lv_istore_n (lv' := [(2, .int 0), (0, .ref h0), (1, .int i0)]) hx hb dX12_page_29 rfl hl (by decide) rfl (fun ls hl => ?_)
    have zv8 : (rI (uI (uI (uI R 4 (0 : Int32)) 5 (-1 : Int32)) 3 xv7) 2).toInt = (rI R 2).toInt := rfl
    have zv9 : (rI (uI (uI (uI R 4 (0 : Int32)) 5 (-1 : Int32)) 3 xv7) 3).toInt = xv7.toInt := rfl
    have loop30 : ∀ (fu : Nat) (kz : Int32) (Ra : RS) (H : Heap) (locs : List Loc) (ls : Array Slot), (fr [1, 2, 3, 4, 5, 6, 7, 8, 9, 10, 11, 12, 13, 14, 15, 16, 17, 18, 19, 20, 21, 22] R Ra) → (RI Ra) → (0 ≤ kz.toInt) → (1600 - kz.toInt).toNat < fu → lv_has ls 3 [(0, .ref h0), (1, .int i0), (2, .int kz)] → mH D H0 (rM h0 Ra) kc ns H locs → W p l e ({ frames := 4, cells := 0, slots := 0, locals := 87 } : Room) s m args below meth c H locs 0 0 (MQ below (mQ D H0 gI (fun r S1 k1 n1 => kc = k1 ∧ ns = n1 ∧ ∃ R1, S1 = rM h0 R1 ∧ fr [1, 2, 3, 4, 5, 6, 7, 8, 9, 10, 11, 12, 13, 14, 15, 16, 17, 18, 19, 20, 21, 22] R R1 ∧ RI R1 ∧ ((0 ≤ i0.toInt ∧ i0.toInt < 4 ∧ (rI R1 2).toInt = 0) ∨ ((i0.toInt < 0 ∨ 4 ≤ i0.toInt) ∧ (rI R1 2).toInt = (rI R 2).toInt)))) args s 0 0 (mF H0)) (F0 m 30 ls []) := by
      intro fu
      induction fu with
      | zero => intro kz Ra H locs ls h30_0 h30_1 h30_2 hfu; exact absurd hfu (by omega)
      | succ fu ih30 =>
        intro kz Ra H locs ls h30_0 h30_1 h30_2 hfu hl hM
        have hF := h30_0
        have hI := h30_1
        have fz := RI.size hI
        refine lv_iload_n hx hb dX12_page_30 rfl (lv_at hl 2 rfl) ?_
        refine lv_aload_n hx hb dX12_page_31 rfl (lv_at hl 0 rfl) ?_
        refine rr_getI (k := 3) (v := rI Ra 3) C hM f_X12_110 rfl rfl dX12_page_32 ?_
        refine lv_topi (fun xv10 exv10 => ?_)
        have mxv10 : xv10.toInt = (rI Ra 3).toInt := by rw [exv10]
        refine lv_icmp_ge (tgt := 56) hx hb dX12_page_35 (by decide) (fun cv11 => ?_) (fun cv11 => ?_)
        · have tcv11 := leT cv11
          refine lv_aload_n hx hb dX12_page_56 rfl (lv_at hl 0 rfl) ?_
          refine lv_iconst (v := 0) hx hb dX12_page_57 (by decide) ?_
          refine rr_putI (k := 2) (v := (0 : Int32)) C hM f_X12_171 rfl (fun r h => by cases h; rfl) rfl dX12_page_58 (fun H locs hM => ?_)
          have hM : mH D H0 (rM h0 (uI Ra 2 (0 : Int32))) kc ns H locs := hM
          have hF : fr [1, 2, 3, 4, 5, 6, 7, 8, 9, 10, 11, 12, 13, 14, 15, 16, 17, 18, 19, 20, 21, 22] R (uI Ra 2 (0 : Int32)) := hF.I (by decide)
          have hI : RI (uI Ra 2 (0 : Int32)) := hI.st2 (by decide)
          refine lv_aload_n hx hb dX12_page_61 rfl (lv_at hl 0 rfl) ?_
          have zv12 : (rI (uI Ra 2 (0 : Int32)) 2).toInt = (0 : Int32).toInt := rfl
          have zv13 : (rI (uI Ra 2 (0 : Int32)) 3).toInt = (rI Ra 3).toInt := rfl
          refine r_V (As := []) (rest := []) (ci := 12) C hM (c_X12_readPage l D H0 h0 (uI Ra 2 (0 : Int32)) kc ns hI) i_X12_readPage m_X12_174 rK0 rfl rfl rfl hl.1 rfl (Nat.le_of_ble_eq_true rfl) ⟨by decide, by decide⟩ ⟨by decide, by decide⟩ dX12_page_62 (fun uv17 Sv14 kv15 nv16 H locs pv18 hM => ?_)
          obtain ⟨rfl, rfl, Rv19, rfl, hf9, ⟨hI, hR⟩⟩ := pv18
          have hF : fr [1, 2, 3, 4, 5, 6, 7, 8, 9, 10, 11, 12, 13, 14, 15, 16, 17, 18, 19, 20, 21, 22] R Rv19 := hF.trans hf9 (by decide)
          have zv20 : (rI Rv19 2).toInt = (rI (uI Ra 2 (0 : Int32)) 2).toInt := by rw [hf9.gI 2 (by decide)]
          have zv21 : (rI Rv19 3).toInt = (rI (uI Ra 2 (0 : Int32)) 3).toInt := by rw [hf9.gI 3 (by decide)]
          have vv22 : rI Rv19 3 = xv10 := (hf9.gI 3 (by decide)).trans (exv10.symm)
          have vv23 : rI Rv19 2 = (0 : Int32) := (hf9.gI 2 (by decide)).trans (rfl)
          refine W.eq (g2 := F0 m 65 ls []) rfl ?_
          refine lv_aload_n hx hb dX12_page_65 rfl (lv_at hl 0 rfl) ?_
          refine r_V (As := []) (rest := []) (ci := 12) C hM (c_X12_isGood l D H0 h0 Rv19 kc ns ) i_X12_isGood m_X12_147 rK0 rfl rfl rfl hl.1 rfl (Nat.le_of_ble_eq_true rfl) ⟨by decide, by decide⟩ ⟨by decide, by decide⟩ dX12_page_66 (fun xv27 Sv24 kv25 nv26 H locs pv28 hM => ?_)
          obtain ⟨rfl, rfl, rfl, hxv27⟩ := pv28
          refine W.eq (g2 := F0 m 69 ls [.int xv27]) rfl ?_
          refine lv_if_ne (tgt := 74) hx hb dX12_page_69 (by decide) (fun cv29 => ?_) (fun cv29 => ?_)
          · have tcv29 := eqF cv29
            refine lv_aload_n hx hb dX12_page_74 rfl (lv_at hl 0 rfl) ?_
            refine r_V (As := []) (rest := []) (ci := 12) C hM (c_X12_measure l D H0 h0 Rv19 kc ns hI hR.2.1) i_X12_measure m_X12_177 rK0 rfl rfl rfl hl.1 rfl (Nat.le_of_ble_eq_true rfl) ⟨by decide, by decide⟩ ⟨by decide, by decide⟩ dX12_page_75 (fun uv33 Sv30 kv31 nv32 H locs pv34 hM => ?_)
            obtain ⟨rfl, rfl, Rv35, rfl, hf9, ⟨hI, hPG⟩⟩ := pv34
            have hF : fr [1, 2, 3, 4, 5, 6, 7, 8, 9, 10, 11, 12, 13, 14, 15, 16, 17, 18, 19, 20, 21, 22] R Rv35 := hF.trans hf9 (by decide)
            have zv36 : (rI Rv35 2).toInt = (rI Rv19 2).toInt := by rw [hf9.gI 2 (by decide)]
            have zv37 : (rI Rv35 3).toInt = (rI Rv19 3).toInt := by rw [hf9.gI 3 (by decide)]
            have vv38 : rI Rv35 3 = xv10 := (hf9.gI 3 (by decide)).trans (vv22)
            have vv39 : rI Rv35 2 = (0 : Int32) := (hf9.gI 2 (by decide)).trans (vv23)
            refine W.eq (g2 := F0 m 78 ls []) rfl ?_
            refine lv_aload_n hx hb dX12_page_78 rfl (lv_at hl 0 rfl) ?_
            refine lv_bipush (v := 30) hx hb dX12_page_79 (by decide) ?_
            refine lv_iload_n hx hb dX12_page_81 rfl (lv_at hl 1 rfl) ?_
            refine r_V (As := [.int 30, .int i0]) (rest := []) (ci := 12) C hM (c_X12_copyPage l D H0 h0 Rv35 kc ns 30 i0 hI hPG (by omega) (by omega) (by omega) (by omega) (by omega) (by omega)) i_X12_copyPage m_X12_180 rK0 rfl rfl rfl hl.1 rfl (Nat.le_of_ble_eq_true rfl) ⟨by decide, by decide⟩ ⟨by decide, by decide⟩ dX12_page_82 (fun uv43 Sv40 kv41 nv42 H locs pv44 hM => ?_)
            obtain ⟨rfl, rfl, Rv45, rfl, hf9, ⟨hI, hcn, hct⟩⟩ := pv44
            have hF : fr [1, 2, 3, 4, 5, 6, 7, 8, 9, 10, 11, 12, 13, 14, 15, 16, 17, 18, 19, 20, 21, 22] R Rv45 := hF.trans hf9 (by decide)
            have zv46 : (rI Rv45 2).toInt = (rI Rv35 2).toInt := by rw [hf9.gI 2 (by decide)]
            have zv47 : (rI Rv45 3).toInt = (rI Rv35 3).toInt := by rw [hf9.gI 3 (by decide)]
            have vv48 : rI Rv45 3 = xv10 := (hf9.gI 3 (by decide)).trans (vv38)
            have vv49 : rI Rv45 2 = (0 : Int32) := (hf9.gI 2 (by decide)).trans (vv39)
            refine W.eq (g2 := F0 m 85 ls []) rfl ?_
            refine lv_aload_n hx hb dX12_page_85 rfl (lv_at hl 0 rfl) ?_
            refine rr_getA (k := 10) (j := 2) C hM f_X12_20 rfl rfl dX12_page_86 ?_
            refine lv_iload_n hx hb dX12_page_89 rfl (lv_at hl 1 rfl) ?_
            refine rr_ldI (j := 2) (k := 10) (n := 31) (v := rA Rv45 10 i0.toNatClampNeg) C hM rfl rfl rfl (inI (by omega) (by show _ < (31 : Int); omega)) rfl dX12_page_90 ?_
            refine lv_topi (fun xv50 exv50 => ?_)
            have mxv50 : xv50.toInt = (rA Rv45 10 i0.toNatClampNeg).toInt := by rw [exv50]
            exact r_retI C hr hlk hM (⟨rfl, rfl, _, rfl, hF, hI, by omega⟩) dX12_page_91
          · have tcv29 := eqT cv29
            refine lv_iconst (v := -1) hx hb dX12_page_72 (by decide) ?_
            exact r_retI C hr hlk hM (⟨rfl, rfl, _, rfl, hF, hI, by omega⟩) dX12_page_73
        · have tcv11 := leF cv11
          refine lv_aload_n hx hb dX12_page_38 rfl (lv_at hl 0 rfl) ?_
          refine rr_getA (k := 1) (j := 1) C hM f_X12_13 rfl rfl dX12_page_39 ?_
          refine lv_iload_n hx hb dX12_page_42 rfl (lv_at hl 2 rfl) ?_
          refine lv_aload_n hx hb dX12_page_43 rfl (lv_at hl 0 rfl) ?_
          refine rr_getA (k := 0) (j := 0) C hM f_X12_7 rfl rfl dX12_page_44 ?_
          refine lv_iload_n hx hb dX12_page_47 rfl (lv_at hl 2 rfl) ?_
          refine rr_ldB (j := 0) (k := 0) (n := 1620) (v := rA R 0 kz.toNatClampNeg) C hM rfl rfl rfl (inI (by omega) (by show _ < (1620 : Int); omega)) (congrFun (hF.gA 0 (by decide)) kz.toNatClampNeg) dX12_page_48 ?_
          refine lv_topi (fun xv51 exv51 => ?_)
          refine rr_stB (j := 1) (k := 1) (n := 1600) (i := kz) (x := xv51) C hM rfl rfl rfl (inI (by omega) (by show _ < (1600 : Int); omega)) dX12_page_49 (fun H locs hM => ?_)
          have hM : mH D H0 (rM h0 (uA Ra 1 kz.toNatClampNeg (vp_nar .byte xv51))) kc ns H locs := hM
          have hF : fr [1, 2, 3, 4, 5, 6, 7, 8, 9, 10, 11, 12, 13, 14, 15, 16, 17, 18, 19, 20, 21, 22] R (uA Ra 1 kz.toNatClampNeg (vp_nar .byte xv51)) := hF.A (by decide)
          have hI : RI (uA Ra 1 kz.toNatClampNeg (vp_nar .byte xv51)) := hI.fr (L := [1]) (fr.rf.A (by decide)) (by decide)
          obtain ⟨xv52, exv52⟩ : ∃ y : Int32, y = kz + 1 := ⟨_, rfl⟩
          try (have txv52 := addI (a := kz) (b := 1) (by omega) (by omega); rw [← exv52] at txv52)
          refine lv_iinc (v := xv52) (lv' := [(2, .int xv52), (0, .ref h0), (1, .int i0)]) hx hb dX12_page_50 hl (k := 2) rfl (by rw [exv52]; rfl) (by decide) rfl (fun ls hl => ?_)
          refine lv_goto (tgt := 30) hx hb dX12_page_53 (by decide) ?_
          have zv53 : (rI (uA Ra 1 kz.toNatClampNeg (vp_nar .byte xv51)) 2).toInt = (rI Ra 2).toInt := rfl
          have zv54 : (rI (uA Ra 1 kz.toNatClampNeg (vp_nar .byte xv51)) 3).toInt = (rI Ra 3).toInt := rfl
          exact ih30 xv52 (uA Ra 1 kz.toNatClampNeg (vp_nar .byte xv51)) _ _ _ (hF) (hI) (by omega) (by omega) (lv_sub hl [1, 2, 0] rfl) hM
    have zv55 : (rI (uI (uI (uI R 4 (0 : Int32)) 5 (-1 : Int32)) 3 xv7) 2).toInt = (rI R 2).toInt := rfl
    have zv56 : (rI (uI (uI (uI R 4 (0 : Int32)) 5 (-1 : Int32)) 3 xv7) 3).toInt = xv7.toInt := rfl
    exact loop30 (((1600 - (0 : Int32).toInt).toNat) + 1) 0 (uI (uI (uI R 4 (0 : Int32)) 5 (-1 : Int32)) 3 xv7) _ _ _ (hF) (hI) (by omega) (by omega) (lv_sub hl [1, 2, 0] rfl) hM
  · have tcv6 := eqT cv6
    refine lv_bipush (v := -2) hx hb dX12_page_7 (by decide) ?_
    exact r_retI C hr hlk hM (⟨rfl, rfl, _, rfl, hF, hI, by omega⟩) dX12_page_9
