set_option maxHeartbeats 4000000 in
set_option maxRecDepth 100000 in
theorem c_X12_arePaths (l : Launch) (D : gD) (H0 : gB) (h0 : Nat) (R : RS) (kc ns : Nat) (i0 i1 i2 i3 : Int32) (hI : RI R) (g00 : 0 ≤ i0.toInt) (g10 : i0.toInt < 30) (p01 : 0 ≤ i1.toInt) (p11 : i1.toInt < (rA R 10 i0.toNatClampNeg).toInt) (g02 : 0 ≤ i2.toInt) (g12 : i2.toInt < 30) (p03 : 0 ≤ i3.toInt) (p13 : i3.toInt < (rA R 10 i2.toNatClampNeg).toInt)  : Met l yX12_arePaths (wsU yX12_arePaths cX12_arePaths 7 (some .boolean)) ({ frames := 1, cells := 0, slots := 0, locals := 21 } : Room) (mP D H0 (rM h0 R) kc ns [.ref h0, .int i0, .int i1, .int i2, .int i3]) (mQ D H0 gI (fun r S1 k1 n1 => rM h0 R = S1 ∧ kc = k1 ∧ ns = n1 ∧ (r = 0 ∨ r = 1))) 0 0 (mF H0) := by
  refine r_met (own := RX12) (by decide +kernel) rfl (Nat.le_of_ble_eq_true rfl) ?_
  intro p e s m args below meth c C hr hlk hnm H ls hl hM
  obtain ⟨hx, hb, hml, hown, hts, -, -⟩ := id C
  have hl : lv_has ls 7 [(0, .ref h0), (1, .int i0), (2, .int i1), (3, .int i2), (4, .int i3)] := hl
  have hF : fr [] R R := fr.rf
  have hI0 := hI
  have t_0 : (0 : Int32).toInt = 0 := by decide
  have t_1 : (1 : Int32).toInt = 1 := by decide
  have fm0 := RI.many hI i0.toNatClampNeg
  have fm2 := RI.many hI i2.toNatClampNeg
  refine lv_iload_n hx hb dX12_arePaths_0 rfl (lv_at hl 2 rfl) ?_
  refine lv_istore (lv' := [(5, .int i1), (0, .ref h0), (1, .int i0), (2, .int i1), (3, .int i2), (4, .int i3)]) hx hb dX12_arePaths_1 hl (by decide) rfl (fun ls hl => ?_)
  refine lv_iload hx hb dX12_arePaths_3 (lv_at hl 5 rfl) ?_
  refine lv_istore (lv' := [(6, .int i3), (5, .int i1), (0, .ref h0), (1, .int i0), (2, .int i1), (3, .int i2), (4, .int i3)]) hx hb dX12_arePaths_5 hl (by decide) rfl (fun ls hl => ?_)
  have loop7 : ∀ (fu : Nat) (qz : Int32) (pz : Int32) (H : Heap) (locs : List Loc) (ls : Array Slot), (-1 ≤ pz.toInt ∧ pz.toInt < (rA R 10 i0.toNatClampNeg).toInt) → (-1 ≤ qz.toInt ∧ qz.toInt < (rA R 10 i2.toNatClampNeg).toInt) → (pz.toInt + 1).toNat < fu → lv_has ls 7 [(0, .ref h0), (1, .int i0), (2, .int i1), (3, .int i2), (4, .int i3), (5, .int pz), (6, .int qz)] → mH D H0 (rM h0 R) kc ns H locs → W p l e ({ frames := 1, cells := 0, slots := 0, locals := 21 } : Room) s m args below meth c H locs 0 0 (MQ below (mQ D H0 gI (fun r S1 k1 n1 => rM h0 R = S1 ∧ kc = k1 ∧ ns = n1 ∧ (r = 0 ∨ r = 1))) args s 0 0 (mF H0)) (F0 m 7 ls []) := by
    intro fu
    induction fu with
    | zero => intro qz pz H locs ls h7_0 h7_1 hfu; exact absurd hfu (by omega)
    | succ fu ih7 =>
      intro qz pz H locs ls h7_0 h7_1 hfu hl hM
      refine lv_iload hx hb dX12_arePaths_7 (lv_at hl 5 rfl) ?_
      refine lv_if_lt (tgt := 99) hx hb dX12_arePaths_9 (by decide) (fun cv1 => ?_) (fun cv1 => ?_)
      · have tcv1 := ltT cv1
        refine lv_iload hx hb dX12_arePaths_99 (lv_at hl 5 rfl) ?_
        refine lv_if_ge (tgt := 113) hx hb dX12_arePaths_101 (by decide) (fun cv2 => ?_) (fun cv2 => ?_)
        · have tcv2 := leT cv2
          refine lv_iconst (v := 0) hx hb dX12_arePaths_113 (by decide) ?_
          exact r_retZ C hr hlk rfl hM (⟨rfl, rfl, rfl, by decide⟩) dX12_arePaths_114
        · have tcv2 := leF cv2
          refine lv_iload hx hb dX12_arePaths_104 (lv_at hl 6 rfl) ?_
          refine lv_if_ge (tgt := 113) hx hb dX12_arePaths_106 (by decide) (fun cv3 => ?_) (fun cv3 => ?_)
          · have tcv3 := leT cv3
            refine lv_iconst (v := 0) hx hb dX12_arePaths_113 (by decide) ?_
            exact r_retZ C hr hlk rfl hM (⟨rfl, rfl, rfl, by decide⟩) dX12_arePaths_114
          · have tcv3 := leF cv3
            refine lv_iconst (v := 1) hx hb dX12_arePaths_109 (by decide) ?_
            refine lv_goto (tgt := 114) hx hb dX12_arePaths_110 (by decide) ?_
            exact r_retZ C hr hlk rfl hM (⟨rfl, rfl, rfl, by decide⟩) dX12_arePaths_114
      · have tcv1 := ltF cv1
        refine lv_iload hx hb dX12_arePaths_12 (lv_at hl 6 rfl) ?_
        refine lv_if_lt (tgt := 99) hx hb dX12_arePaths_14 (by decide) (fun cv4 => ?_) (fun cv4 => ?_)
        · have tcv4 := ltT cv4
          refine lv_iload hx hb dX12_arePaths_99 (lv_at hl 5 rfl) ?_
          refine lv_if_ge (tgt := 113) hx hb dX12_arePaths_101 (by decide) (fun cv5 => ?_) (fun cv5 => ?_)
          · have tcv5 := leT cv5
            refine lv_iconst (v := 0) hx hb dX12_arePaths_113 (by decide) ?_
            exact r_retZ C hr hlk rfl hM (⟨rfl, rfl, rfl, by decide⟩) dX12_arePaths_114
          · have tcv5 := leF cv5
            refine lv_iload hx hb dX12_arePaths_104 (lv_at hl 6 rfl) ?_
            refine lv_if_ge (tgt := 113) hx hb dX12_arePaths_106 (by decide) (fun cv6 => ?_) (fun cv6 => ?_)
            · have tcv6 := leT cv6
              refine lv_iconst (v := 0) hx hb dX12_arePaths_113 (by decide) ?_
              exact r_retZ C hr hlk rfl hM (⟨rfl, rfl, rfl, by decide⟩) dX12_arePaths_114
            · have tcv6 := leF cv6
              refine lv_iconst (v := 1) hx hb dX12_arePaths_109 (by decide) ?_
              refine lv_goto (tgt := 114) hx hb dX12_arePaths_110 (by decide) ?_
              exact r_retZ C hr hlk rfl hM (⟨rfl, rfl, rfl, by decide⟩) dX12_arePaths_114
        · have tcv4 := ltF cv4
          refine lv_aload_n hx hb dX12_arePaths_17 rfl (lv_at hl 0 rfl) ?_
          refine rr_getA (k := 17) (j := 9) C hM f_X12_42 rfl rfl dX12_arePaths_18 ?_
          refine lv_iload_n hx hb dX12_arePaths_21 rfl (lv_at hl 1 rfl) ?_
          refine lv_iload hx hb dX12_arePaths_22 (lv_at hl 5 rfl) ?_
          refine r_S (As := [.int i0, .int pz]) (rest := [.ref (h0 + 1 + 9)]) C hM (c_X12_spot l D H0 (rM h0 R) kc ns i0 pz (by omega) (by omega) (by omega) (by omega)) i_X12_spot m_X12_151 rfl hl.1 rfl (Nat.le_of_ble_eq_true rfl) ⟨by decide, by decide⟩ ⟨by decide, by decide⟩ dX12_arePaths_24 (fun xv10 Sv7 kv8 nv9 H locs pv11 hM => ?_)
          obtain ⟨rfl, rfl, rfl, hxv10⟩ := pv11
          refine W.eq (g2 := F0 m 27 ls [.int xv10, .ref (h0 + 1 + 9)]) rfl ?_
          refine rr_ldJ (j := 9) (k := 17) (n := 1860) (v := rB R 17 xv10.toNatClampNeg) C hM rfl rfl rfl (inI (by omega) (by show _ < (1860 : Int); omega)) (congrFun (hF.gB 17 (by decide)) xv10.toNatClampNeg) dX12_arePaths_27 ?_
          refine lv_topl (fun lv12 elv12 => ?_)
          refine lv_aload_n hx hb dX12_arePaths_28 rfl (lv_at hl 0 rfl) ?_
          refine rr_getA (k := 17) (j := 9) C hM f_X12_42 rfl rfl dX12_arePaths_29 ?_
          refine lv_iload_n hx hb dX12_arePaths_32 rfl (lv_at hl 3 rfl) ?_
          refine lv_iload hx hb dX12_arePaths_33 (lv_at hl 6 rfl) ?_
          refine r_S (As := [.int i2, .int qz]) (rest := [.ref (h0 + 1 + 9), .long lv12]) C hM (c_X12_spot l D H0 (rM h0 R) kc ns i2 qz (by omega) (by omega) (by omega) (by omega)) i_X12_spot m_X12_151 rfl hl.1 rfl (Nat.le_of_ble_eq_true rfl) ⟨by decide, by decide⟩ ⟨by decide, by decide⟩ dX12_arePaths_35 (fun xv16 Sv13 kv14 nv15 H locs pv17 hM => ?_)
          obtain ⟨rfl, rfl, rfl, hxv16⟩ := pv17
          refine W.eq (g2 := F0 m 38 ls [.int xv16, .ref (h0 + 1 + 9), .long lv12]) rfl ?_
          refine rr_ldJ (j := 9) (k := 17) (n := 1860) (v := rB R 17 xv16.toNatClampNeg) C hM rfl rfl rfl (inI (by omega) (by show _ < (1860 : Int); omega)) (congrFun (hF.gB 17 (by decide)) xv16.toNatClampNeg) dX12_arePaths_38 ?_
          refine lv_topl (fun lv18 elv18 => ?_)
          refine W.lcmp hx hb dX12_arePaths_39 ?_
          refine lv_topi (fun xv19 exv19 => ?_)
          refine lv_if_ne (tgt := 68) hx hb dX12_arePaths_40 (by decide) (fun cv20 => ?_) (fun cv20 => ?_)
          · have tcv20 := eqF cv20
            refine lv_iconst (v := 0) hx hb dX12_arePaths_68 (by decide) ?_
            exact r_retZ C hr hlk rfl hM (⟨rfl, rfl, rfl, by decide⟩) dX12_arePaths_69
          · have tcv20 := eqT cv20
            refine lv_aload_n hx hb dX12_arePaths_43 rfl (lv_at hl 0 rfl) ?_
            refine rr_getA (k := 13) (j := 5) C hM f_X12_30 rfl rfl dX12_arePaths_44 ?_
            refine lv_iload_n hx hb dX12_arePaths_47 rfl (lv_at hl 1 rfl) ?_
            refine lv_iload hx hb dX12_arePaths_48 (lv_at hl 5 rfl) ?_
            refine r_S (As := [.int i0, .int pz]) (rest := [.ref (h0 + 1 + 5)]) C hM (c_X12_spot l D H0 (rM h0 R) kc ns i0 pz (by omega) (by omega) (by omega) (by omega)) i_X12_spot m_X12_151 rfl hl.1 rfl (Nat.le_of_ble_eq_true rfl) ⟨by decide, by decide⟩ ⟨by decide, by decide⟩ dX12_arePaths_50 (fun xv24 Sv21 kv22 nv23 H locs pv25 hM => ?_)
            obtain ⟨rfl, rfl, rfl, hxv24⟩ := pv25
            have ee9 : xv10 = xv24 := Int32.toInt_inj.mp (by omega)
            subst ee9
            refine W.eq (g2 := F0 m 53 ls [.int xv10, .ref (h0 + 1 + 5)]) rfl ?_
            refine rr_ldI (j := 5) (k := 13) (n := 1860) (v := rA R 13 xv10.toNatClampNeg) C hM rfl rfl rfl (inI (by omega) (by show _ < (1860 : Int); omega)) (congrFun (hF.gA 13 (by decide)) xv10.toNatClampNeg) dX12_arePaths_53 ?_
            refine lv_topi (fun xv26 exv26 => ?_)
            refine lv_aload_n hx hb dX12_arePaths_54 rfl (lv_at hl 0 rfl) ?_
            refine rr_getA (k := 13) (j := 5) C hM f_X12_30 rfl rfl dX12_arePaths_55 ?_
            refine lv_iload_n hx hb dX12_arePaths_58 rfl (lv_at hl 3 rfl) ?_
            refine lv_iload hx hb dX12_arePaths_59 (lv_at hl 6 rfl) ?_
            refine r_S (As := [.int i2, .int qz]) (rest := [.ref (h0 + 1 + 5), .int xv26]) C hM (c_X12_spot l D H0 (rM h0 R) kc ns i2 qz (by omega) (by omega) (by omega) (by omega)) i_X12_spot m_X12_151 rfl hl.1 rfl (Nat.le_of_ble_eq_true rfl) ⟨by decide, by decide⟩ ⟨by decide, by decide⟩ dX12_arePaths_61 (fun xv30 Sv27 kv28 nv29 H locs pv31 hM => ?_)
            obtain ⟨rfl, rfl, rfl, hxv30⟩ := pv31
            have ee9 : xv16 = xv30 := Int32.toInt_inj.mp (by omega)
            subst ee9
            refine W.eq (g2 := F0 m 64 ls [.int xv16, .ref (h0 + 1 + 5), .int xv26]) rfl ?_
            refine rr_ldI (j := 5) (k := 13) (n := 1860) (v := rA R 13 xv16.toNatClampNeg) C hM rfl rfl rfl (inI (by omega) (by show _ < (1860 : Int); omega)) (congrFun (hF.gA 13 (by decide)) xv16.toNatClampNeg) dX12_arePaths_64 ?_
            refine lv_topi (fun xv32 exv32 => ?_)
            refine lv_icmp_eq (tgt := 70) hx hb dX12_arePaths_65 (by decide) (fun cv33 => ?_) (fun cv33 => ?_)
            · have tcv33 := eqT cv33
              refine lv_aload_n hx hb dX12_arePaths_70 rfl (lv_at hl 0 rfl) ?_
              refine rr_getA (k := 11) (j := 3) C hM f_X12_24 rfl rfl dX12_arePaths_71 ?_
              refine lv_iload_n hx hb dX12_arePaths_74 rfl (lv_at hl 1 rfl) ?_
              refine lv_iload hx hb dX12_arePaths_75 (lv_at hl 5 rfl) ?_
              refine r_S (As := [.int i0, .int pz]) (rest := [.ref (h0 + 1 + 3)]) C hM (c_X12_spot l D H0 (rM h0 R) kc ns i0 pz (by omega) (by omega) (by omega) (by omega)) i_X12_spot m_X12_151 rfl hl.1 rfl (Nat.le_of_ble_eq_true rfl) ⟨by decide, by decide⟩ ⟨by decide, by decide⟩ dX12_arePaths_77 (fun xv37 Sv34 kv35 nv36 H locs pv38 hM => ?_)
              obtain ⟨rfl, rfl, rfl, hxv37⟩ := pv38
              have ee9 : xv10 = xv37 := Int32.toInt_inj.mp (by omega)
              subst ee9
              refine W.eq (g2 := F0 m 80 ls [.int xv10, .ref (h0 + 1 + 3)]) rfl ?_
              refine rr_ldI (j := 3) (k := 11) (n := 1860) (v := rA R 11 xv10.toNatClampNeg) C hM rfl rfl rfl (inI (by omega) (by show _ < (1860 : Int); omega)) (congrFun (hF.gA 11 (by decide)) xv10.toNatClampNeg) dX12_arePaths_80 ?_
              refine lv_topi (fun xv39 exv39 => ?_)
              try (have fxv39 := PG.at11 hI0 (g := i0) (p := pz) (x := xv10) (by omega) (by omega) (by omega) (by omega) (by omega); rw [← exv39] at fxv39)
              refine lv_istore (lv' := [(5, .int xv39), (0, .ref h0), (1, .int i0), (2, .int i1), (3, .int i2), (4, .int i3), (6, .int qz)]) hx hb dX12_arePaths_81 hl (by decide) rfl (fun ls hl => ?_)
              refine lv_aload_n hx hb dX12_arePaths_83 rfl (lv_at hl 1 rfl) ?_
              refine rr_getA (k := 11) (j := 3) C hM f_X12_24 rfl rfl dX12_arePaths_84 ?_
              refine lv_iload_n hx hb dX12_arePaths_87 rfl (lv_at hl 4 rfl) ?_
              refine lv_iload hx hb dX12_arePaths_88 (lv_at hl 6 rfl) ?_
              refine r_S (As := [.int i2, .int qz]) (rest := [.ref (h0 + 1 + 3)]) C hM (c_X12_spot l D H0 (rM h0 R) kc ns i2 qz (by omega) (by omega) (by omega) (by omega)) i_X12_spot m_X12_151 rfl hl.1 rfl (Nat.le_of_ble_eq_true rfl) ⟨by decide, by decide⟩ ⟨by decide, by decide⟩ dX12_arePaths_90 (fun xv43 Sv40 kv41 nv42 H locs pv44 hM => ?_)
              obtain ⟨rfl, rfl, rfl, hxv43⟩ := pv44
              have ee9 : xv16 = xv43 := Int32.toInt_inj.mp (by omega)
              subst ee9
              refine W.eq (g2 := F0 m 93 ls [.int xv16, .ref (h0 + 1 + 3)]) rfl ?_
              refine rr_ldI (j := 3) (k := 11) (n := 1860) (v := rA R 11 xv16.toNatClampNeg) C hM rfl rfl rfl (inI (by omega) (by show _ < (1860 : Int); omega)) (congrFun (hF.gA 11 (by decide)) xv16.toNatClampNeg) dX12_arePaths_93 ?_
              refine lv_topi (fun xv45 exv45 => ?_)
              try (have fxv45 := PG.at11 hI0 (g := i2) (p := qz) (x := xv16) (by omega) (by omega) (by omega) (by omega) (by omega); rw [← exv45] at fxv45)
              refine lv_istore (lv' := [(6, .int xv45), (5, .int xv39), (0, .ref h0), (1, .int i0), (2, .int i1), (3, .int i2), (4, .int i3)]) hx hb dX12_arePaths_94 hl (by decide) rfl (fun ls hl => ?_)
              refine lv_goto (tgt := 7) hx hb dX12_arePaths_96 (by decide) ?_
              exact ih7 xv45 xv39 _ _ _ (by omega) (by omega) (by omega) (lv_sub hl [2, 3, 4, 5, 6, 1, 0] rfl) hM
            · have tcv33 := eqF cv33
              refine lv_iconst (v := 0) hx hb dX12_arePaths_68 (by decide) ?_
              exact r_retZ C hr hlk rfl hM (⟨rfl, rfl, rfl, by decide⟩) dX12_arePaths_69
  exact loop7 (((i1.toInt + 1).toNat) + 1) i3 i1 _ _ _ (by omega) (by omega) (by omega) (lv_sub hl [2, 3, 4, 5, 6, 1, 0] rfl) hM
set_option maxHeartbeats 4000000 in
set_option maxRecDepth 100000 in
theorem c_X12_areLabels (l : Launch) (D : gD) (H0 : gB) (h0 : Nat) (R : RS) (kc ns : Nat) (i0 i1 i2 i3 : Int32) (hI : RI R) (g00 : 0 ≤ i0.toInt) (g10 : i0.toInt < 30) (p01 : 0 ≤ i1.toInt) (p11 : i1.toInt < (rA R 10 i0.toNatClampNeg).toInt) (g02 : 0 ≤ i2.toInt) (g12 : i2.toInt < 30) (p03 : 0 ≤ i3.toInt) (p13 : i3.toInt < (rA R 10 i2.toNatClampNeg).toInt)  : Met l yX12_areLabels (wsU yX12_areLabels cX12_areLabels 7 (some .boolean)) ({ frames := 2, cells := 0, slots := 0, locals := 44 } : Room) (mP D H0 (rM h0 R) kc ns [.ref h0, .int i0, .int i1, .int i2, .int i3]) (mQ D H0 gI (fun r S1 k1 n1 => rM h0 R = S1 ∧ kc = k1 ∧ ns = n1 ∧ (r = 0 ∨ r = 1))) 0 0 (mF H0) := by
  refine r_met (own := RX12) (by decide +kernel) rfl (Nat.le_of_ble_eq_true rfl) ?_
  intro p e s m args below meth c C hr hlk hnm H ls hl hM
  obtain ⟨hx, hb, hml, hown, hts, -, -⟩ := id C
  have hl : lv_has ls 7 [(0, .ref h0), (1, .int i0), (2, .int i1), (3, .int i2), (4, .int i3)] := hl
  have hF : fr [] R R := fr.rf
  have hI0 := hI
  have t_0 : (0 : Int32).toInt = 0 := by decide
  have t_1 : (1 : Int32).toInt = 1 := by decide
  have fm0 := RI.many hI i0.toNatClampNeg
  have fm2 := RI.many hI i2.toNatClampNeg
  refine lv_aload_n hx hb dX12_areLabels_0 rfl (lv_at hl 0 rfl) ?_
  refine lv_iload_n hx hb dX12_areLabels_1 rfl (lv_at hl 1 rfl) ?_
  refine lv_iload_n hx hb dX12_areLabels_2 rfl (lv_at hl 2 rfl) ?_
  refine r_V (As := [.int i0, .int i1]) (rest := []) (ci := 12) C hM (c_X12_label l D H0 h0 R kc ns i0 i1 hI0 (by omega) (by omega) (by omega) (by omega)) i_X12_label m_X12_195 rK0 rfl rfl rfl hl.1 rfl (Nat.le_of_ble_eq_true rfl) ⟨by decide, by decide⟩ ⟨by decide, by decide⟩ dX12_areLabels_3 (fun xv4 Sv1 kv2 nv3 H locs pv5 hM => ?_)
  obtain ⟨rfl, rfl, rfl, hxv4⟩ := pv5
  refine W.eq (g2 := F0 m 6 ls [.int xv4]) rfl ?_
  refine lv_istore (lv' := [(5, .int xv4), (0, .ref h0), (1, .int i0), (2, .int i1), (3, .int i2), (4, .int i3)]) hx hb dX12_areLabels_6 hl (by decide) rfl (fun ls hl => ?_)
  refine lv_aload_n hx hb dX12_areLabels_8 rfl (lv_at hl 1 rfl) ?_
  refine lv_iload_n hx hb dX12_areLabels_9 rfl (lv_at hl 4 rfl) ?_
  refine lv_iload hx hb dX12_areLabels_10 (lv_at hl 5 rfl) ?_
  refine r_V (As := [.int i2, .int i3]) (rest := []) (ci := 12) C hM (c_X12_label l D H0 h0 R kc ns i2 i3 hI0 (by omega) (by omega) (by omega) (by omega)) i_X12_label m_X12_195 rK0 rfl rfl rfl hl.1 rfl (Nat.le_of_ble_eq_true rfl) ⟨by decide, by decide⟩ ⟨by decide, by decide⟩ dX12_areLabels_12 (fun xv9 Sv6 kv7 nv8 H locs pv10 hM => ?_)
  obtain ⟨rfl, rfl, rfl, hxv9⟩ := pv10
  refine W.eq (g2 := F0 m 15 ls [.int xv9]) rfl ?_
  refine lv_istore (lv' := [(6, .int xv9), (5, .int xv4), (0, .ref h0), (1, .int i0), (2, .int i1), (3, .int i2), (4, .int i3)]) hx hb dX12_areLabels_15 hl (by decide) rfl (fun ls hl => ?_)
  refine lv_iload hx hb dX12_areLabels_17 (lv_at hl 1 rfl) ?_
  refine lv_if_lt (tgt := 27) hx hb dX12_areLabels_19 (by decide) (fun cv11 => ?_) (fun cv11 => ?_)
  · have tcv11 := ltT cv11
    refine lv_iload hx hb dX12_areLabels_27 (lv_at hl 1 rfl) ?_
    refine lv_if_ge (tgt := 41) hx hb dX12_areLabels_29 (by decide) (fun cv12 => ?_) (fun cv12 => ?_)
    · have tcv12 := leT cv12
      refine lv_iconst (v := 0) hx hb dX12_areLabels_41 (by decide) ?_
      refine lv_goto (tgt := 61) hx hb dX12_areLabels_42 (by decide) ?_
      exact r_retZ C hr hlk rfl hM (⟨rfl, rfl, rfl, by decide⟩) dX12_areLabels_61
    · have tcv12 := leF cv12
      refine lv_iload hx hb dX12_areLabels_32 (lv_at hl 0 rfl) ?_
      refine lv_if_ge (tgt := 41) hx hb dX12_areLabels_34 (by decide) (fun cv13 => ?_) (fun cv13 => ?_)
      · have tcv13 := leT cv13
        refine lv_iconst (v := 0) hx hb dX12_areLabels_41 (by decide) ?_
        refine lv_goto (tgt := 61) hx hb dX12_areLabels_42 (by decide) ?_
        exact r_retZ C hr hlk rfl hM (⟨rfl, rfl, rfl, by decide⟩) dX12_areLabels_61
      · have tcv13 := leF cv13
        refine lv_iconst (v := 1) hx hb dX12_areLabels_37 (by decide) ?_
        refine lv_goto (tgt := 61) hx hb dX12_areLabels_38 (by decide) ?_
        exact r_retZ C hr hlk rfl hM (⟨rfl, rfl, rfl, by decide⟩) dX12_areLabels_61
  · have tcv11 := ltF cv11
    refine lv_iload hx hb dX12_areLabels_22 (lv_at hl 0 rfl) ?_
    refine lv_if_ge (tgt := 45) hx hb dX12_areLabels_24 (by decide) (fun cv14 => ?_) (fun cv14 => ?_)
    · have tcv14 := leT cv14
      refine lv_aload_n hx hb dX12_areLabels_45 rfl (lv_at hl 2 rfl) ?_
      refine lv_iload_n hx hb dX12_areLabels_46 rfl (lv_at hl 3 rfl) ?_
      refine lv_iload hx hb dX12_areLabels_47 (lv_at hl 1 rfl) ?_
      refine r_S (As := [.int i0, .int xv4]) (rest := [.ref h0]) C hM (c_X12_spot l D H0 (rM h0 R) kc ns i0 xv4 (by omega) (by omega) (by omega) (by omega)) i_X12_spot m_X12_151 rfl hl.1 rfl (Nat.le_of_ble_eq_true rfl) ⟨by decide, by decide⟩ ⟨by decide, by decide⟩ dX12_areLabels_49 (fun xv18 Sv15 kv16 nv17 H locs pv19 hM => ?_)
      obtain ⟨rfl, rfl, rfl, hxv18⟩ := pv19
      refine W.eq (g2 := F0 m 52 ls [.int xv18, .ref h0]) rfl ?_
      refine lv_iload_n hx hb dX12_areLabels_52 rfl (lv_at hl 5 rfl) ?_
      refine lv_iload hx hb dX12_areLabels_53 (lv_at hl 0 rfl) ?_
      refine r_S (As := [.int i2, .int xv9]) (rest := [.int xv18, .ref h0]) C hM (c_X12_spot l D H0 (rM h0 R) kc ns i2 xv9 (by omega) (by omega) (by omega) (by omega)) i_X12_spot m_X12_151 rfl hl.1 rfl (Nat.le_of_ble_eq_true rfl) ⟨by decide, by decide⟩ ⟨by decide, by decide⟩ dX12_areLabels_55 (fun xv23 Sv20 kv21 nv22 H locs pv24 hM => ?_)
      obtain ⟨rfl, rfl, rfl, hxv23⟩ := pv24
      refine W.eq (g2 := F0 m 58 ls [.int xv23, .int xv18, .ref h0]) rfl ?_
      refine r_V (As := [.int xv18, .int xv23]) (rest := []) (ci := 12) C hM (c_X12_areSameWords l D H0 h0 R kc ns xv18 xv23 hI0 (by omega) (by omega) (by omega) (by omega)) i_X12_areSameWords m_X12_204 rK0 rfl rfl rfl hl.1 rfl (Nat.le_of_ble_eq_true rfl) ⟨by decide, by decide⟩ ⟨by decide, by decide⟩ dX12_areLabels_58 (fun xv28 Sv25 kv26 nv27 H locs pv29 hM => ?_)
      obtain ⟨rfl, rfl, rfl, hxv28⟩ := pv29
      refine W.eq (g2 := F0 m 61 ls [.int xv28]) rfl ?_
      exact r_retZ C hr hlk (nzb hxv28) hM (⟨rfl, rfl, rfl, hxv28⟩) dX12_areLabels_61
    · have tcv14 := leF cv14
      refine lv_iload hx hb dX12_areLabels_27 (lv_at hl 1 rfl) ?_
      refine lv_if_ge (tgt := 41) hx hb dX12_areLabels_29 (by decide) (fun cv30 => ?_) (fun cv30 => ?_)
      · have tcv30 := leT cv30
        refine lv_iconst (v := 0) hx hb dX12_areLabels_41 (by decide) ?_
        refine lv_goto (tgt := 61) hx hb dX12_areLabels_42 (by decide) ?_
        exact r_retZ C hr hlk rfl hM (⟨rfl, rfl, rfl, by decide⟩) dX12_areLabels_61
      · have tcv30 := leF cv30
        refine lv_iload hx hb dX12_areLabels_32 (lv_at hl 0 rfl) ?_
        refine lv_if_ge (tgt := 41) hx hb dX12_areLabels_34 (by decide) (fun cv31 => ?_) (fun cv31 => ?_)
        · have tcv31 := leT cv31
          refine lv_iconst (v := 0) hx hb dX12_areLabels_41 (by decide) ?_
          refine lv_goto (tgt := 61) hx hb dX12_areLabels_42 (by decide) ?_
          exact r_retZ C hr hlk rfl hM (⟨rfl, rfl, rfl, by decide⟩) dX12_areLabels_61
        · have tcv31 := leF cv31
          refine lv_iconst (v := 1) hx hb dX12_areLabels_37 (by decide) ?_
          refine lv_goto (tgt := 61) hx hb dX12_areLabels_38 (by decide) ?_
          exact r_retZ C hr hlk rfl hM (⟨rfl, rfl, rfl, by decide⟩) dX12_areLabels_61
set_option maxHeartbeats 4000000 in
set_option maxRecDepth 100000 in
theorem c_X12_kindAbove (l : Launch) (D : gD) (H0 : gB) (h0 : Nat) (R : RS) (kc ns : Nat) (i0 i1 : Int32) (hI : RI R) (g00 : 0 ≤ i0.toInt) (g10 : i0.toInt < 30) (p01 : 0 ≤ i1.toInt) (p11 : i1.toInt < (rA R 10 i0.toNatClampNeg).toInt)  : Met l yX12_kindAbove (wsU yX12_kindAbove cX12_kindAbove 3 (some .long)) ({ frames := 1, cells := 0, slots := 0, locals := 21 } : Room) (mP D H0 (rM h0 R) kc ns [.ref h0, .int i0, .int i1]) (mQ D H0 gL (fun r S1 k1 n1 => rM h0 R = S1 ∧ kc = k1 ∧ ns = n1 ∧ True)) 0 0 (mF H0) := by
  refine r_met (own := RX12) (by decide +kernel) rfl (Nat.le_of_ble_eq_true rfl) ?_
  intro p e s m args below meth c C hr hlk hnm H ls hl hM
  obtain ⟨hx, hb, hml, hown, hts, -, -⟩ := id C
  have hl : lv_has ls 3 [(0, .ref h0), (1, .int i0), (2, .int i1)] := hl
  have hF : fr [] R R := fr.rf
  have hI0 := hI
  have t_0 : (0 : Int32).toInt = 0 := by decide
  have fm0 := RI.many hI i0.toNatClampNeg
  refine lv_aload_n hx hb dX12_kindAbove_0 rfl (lv_at hl 0 rfl) ?_
  refine rr_getA (k := 11) (j := 3) C hM f_X12_24 rfl rfl dX12_kindAbove_1 ?_
  refine lv_iload_n hx hb dX12_kindAbove_4 rfl (lv_at hl 1 rfl) ?_
  refine lv_iload_n hx hb dX12_kindAbove_5 rfl (lv_at hl 2 rfl) ?_
  refine r_S (As := [.int i0, .int i1]) (rest := [.ref (h0 + 1 + 3)]) C hM (c_X12_spot l D H0 (rM h0 R) kc ns i0 i1 (by omega) (by omega) (by omega) (by omega)) i_X12_spot m_X12_151 rfl hl.1 rfl (Nat.le_of_ble_eq_true rfl) ⟨by decide, by decide⟩ ⟨by decide, by decide⟩ dX12_kindAbove_6 (fun xv4 Sv1 kv2 nv3 H locs pv5 hM => ?_)
  obtain ⟨rfl, rfl, rfl, hxv4⟩ := pv5
  refine W.eq (g2 := F0 m 9 ls [.int xv4, .ref (h0 + 1 + 3)]) rfl ?_
  refine rr_ldI (j := 3) (k := 11) (n := 1860) (v := rA R 11 xv4.toNatClampNeg) C hM rfl rfl rfl (inI (by omega) (by show _ < (1860 : Int); omega)) (congrFun (hF.gA 11 (by decide)) xv4.toNatClampNeg) dX12_kindAbove_9 ?_
  refine lv_topi (fun xv6 exv6 => ?_)
  try (have fxv6 := PG.at11 hI0 (g := i0) (p := i1) (x := xv4) (by omega) (by omega) (by omega) (by omega) (by omega); rw [← exv6] at fxv6)
  refine lv_if_ge (tgt := 17) hx hb dX12_kindAbove_10 (by decide) (fun cv7 => ?_) (fun cv7 => ?_)
  · have tcv7 := leT cv7
    refine lv_aload_n hx hb dX12_kindAbove_17 rfl (lv_at hl 0 rfl) ?_
    refine rr_getA (k := 17) (j := 9) C hM f_X12_42 rfl rfl dX12_kindAbove_18 ?_
    refine lv_iload_n hx hb dX12_kindAbove_21 rfl (lv_at hl 1 rfl) ?_
    refine lv_aload_n hx hb dX12_kindAbove_22 rfl (lv_at hl 0 rfl) ?_
    refine rr_getA (k := 11) (j := 3) C hM f_X12_24 rfl rfl dX12_kindAbove_23 ?_
    refine lv_iload_n hx hb dX12_kindAbove_26 rfl (lv_at hl 1 rfl) ?_
    refine lv_iload_n hx hb dX12_kindAbove_27 rfl (lv_at hl 2 rfl) ?_
    refine r_S (As := [.int i0, .int i1]) (rest := [.ref (h0 + 1 + 3), .int i0, .ref (h0 + 1 + 9)]) C hM (c_X12_spot l D H0 (rM h0 R) kc ns i0 i1 (by omega) (by omega) (by omega) (by omega)) i_X12_spot m_X12_151 rfl hl.1 rfl (Nat.le_of_ble_eq_true rfl) ⟨by decide, by decide⟩ ⟨by decide, by decide⟩ dX12_kindAbove_28 (fun xv11 Sv8 kv9 nv10 H locs pv12 hM => ?_)
    obtain ⟨rfl, rfl, rfl, hxv11⟩ := pv12
    have ee9 : xv4 = xv11 := Int32.toInt_inj.mp (by omega)
    subst ee9
    refine W.eq (g2 := F0 m 31 ls [.int xv4, .ref (h0 + 1 + 3), .int i0, .ref (h0 + 1 + 9)]) rfl ?_
    refine rr_ldI (j := 3) (k := 11) (n := 1860) (v := xv6) C hM rfl rfl rfl (inI (by omega) (by show _ < (1860 : Int); omega)) ((congrFun (hF.gA 11 (by decide)) xv4.toNatClampNeg).trans exv6.symm) dX12_kindAbove_31 ?_
    refine r_S (As := [.int i0, .int xv6]) (rest := [.ref (h0 + 1 + 9)]) C hM (c_X12_spot l D H0 (rM h0 R) kc ns i0 xv6 (by omega) (by omega) (by omega) (by omega)) i_X12_spot m_X12_151 rfl hl.1 rfl (Nat.le_of_ble_eq_true rfl) ⟨by decide, by decide⟩ ⟨by decide, by decide⟩ dX12_kindAbove_32 (fun xv16 Sv13 kv14 nv15 H locs pv17 hM => ?_)
    obtain ⟨rfl, rfl, rfl, hxv16⟩ := pv17
    refine W.eq (g2 := F0 m 35 ls [.int xv16, .ref (h0 + 1 + 9)]) rfl ?_
    refine rr_ldJ (j := 9) (k := 17) (n := 1860) (v := rB R 17 xv16.toNatClampNeg) C hM rfl rfl rfl (inI (by omega) (by show _ < (1860 : Int); omega)) (congrFun (hF.gB 17 (by decide)) xv16.toNatClampNeg) dX12_kindAbove_35 ?_
    refine lv_topl (fun lv18 elv18 => ?_)
    exact r_retL C hr hlk hM (⟨rfl, rfl, rfl, trivial⟩) dX12_kindAbove_36
  · have tcv7 := leF cv7
    refine lv_lconst (v := 0) hx hb dX12_kindAbove_13 (by decide) ?_
    refine lv_goto (tgt := 36) hx hb dX12_kindAbove_14 (by decide) ?_
    exact r_retL C hr hlk hM (⟨rfl, rfl, rfl, trivial⟩) dX12_kindAbove_36
set_option maxHeartbeats 4000000 in
set_option maxRecDepth 100000 in
theorem c_X12_titleAbove (l : Launch) (D : gD) (H0 : gB) (h0 : Nat) (R : RS) (kc ns : Nat) (i0 i1 : Int32) (hI : RI R) (g00 : 0 ≤ i0.toInt) (g10 : i0.toInt < 30) (p01 : 0 ≤ i1.toInt) (p11 : i1.toInt < (rA R 10 i0.toNatClampNeg).toInt)  : Met l yX12_titleAbove (wsU yX12_titleAbove cX12_titleAbove 3 (some .long)) ({ frames := 1, cells := 0, slots := 0, locals := 21 } : Room) (mP D H0 (rM h0 R) kc ns [.ref h0, .int i0, .int i1]) (mQ D H0 gL (fun r S1 k1 n1 => rM h0 R = S1 ∧ kc = k1 ∧ ns = n1 ∧ True)) 0 0 (mF H0) := by
  refine r_met (own := RX12) (by decide +kernel) rfl (Nat.le_of_ble_eq_true rfl) ?_
  intro p e s m args below meth c C hr hlk hnm H ls hl hM
  obtain ⟨hx, hb, hml, hown, hts, -, -⟩ := id C
  have hl : lv_has ls 3 [(0, .ref h0), (1, .int i0), (2, .int i1)] := hl
  have hF : fr [] R R := fr.rf
  have hI0 := hI
  have t_0 : (0 : Int32).toInt = 0 := by decide
  have fm0 := RI.many hI i0.toNatClampNeg
  refine lv_aload_n hx hb dX12_titleAbove_0 rfl (lv_at hl 0 rfl) ?_
  refine rr_getA (k := 11) (j := 3) C hM f_X12_24 rfl rfl dX12_titleAbove_1 ?_
  refine lv_iload_n hx hb dX12_titleAbove_4 rfl (lv_at hl 1 rfl) ?_
  refine lv_iload_n hx hb dX12_titleAbove_5 rfl (lv_at hl 2 rfl) ?_
  refine r_S (As := [.int i0, .int i1]) (rest := [.ref (h0 + 1 + 3)]) C hM (c_X12_spot l D H0 (rM h0 R) kc ns i0 i1 (by omega) (by omega) (by omega) (by omega)) i_X12_spot m_X12_151 rfl hl.1 rfl (Nat.le_of_ble_eq_true rfl) ⟨by decide, by decide⟩ ⟨by decide, by decide⟩ dX12_titleAbove_6 (fun xv4 Sv1 kv2 nv3 H locs pv5 hM => ?_)
  obtain ⟨rfl, rfl, rfl, hxv4⟩ := pv5
  refine W.eq (g2 := F0 m 9 ls [.int xv4, .ref (h0 + 1 + 3)]) rfl ?_
  refine rr_ldI (j := 3) (k := 11) (n := 1860) (v := rA R 11 xv4.toNatClampNeg) C hM rfl rfl rfl (inI (by omega) (by show _ < (1860 : Int); omega)) (congrFun (hF.gA 11 (by decide)) xv4.toNatClampNeg) dX12_titleAbove_9 ?_
  refine lv_topi (fun xv6 exv6 => ?_)
  try (have fxv6 := PG.at11 hI0 (g := i0) (p := i1) (x := xv4) (by omega) (by omega) (by omega) (by omega) (by omega); rw [← exv6] at fxv6)
  refine lv_if_ge (tgt := 17) hx hb dX12_titleAbove_10 (by decide) (fun cv7 => ?_) (fun cv7 => ?_)
  · have tcv7 := leT cv7
    refine lv_aload_n hx hb dX12_titleAbove_17 rfl (lv_at hl 0 rfl) ?_
    refine rr_getA (k := 18) (j := 10) C hM f_X12_46 rfl rfl dX12_titleAbove_18 ?_
    refine lv_iload_n hx hb dX12_titleAbove_21 rfl (lv_at hl 1 rfl) ?_
    refine lv_aload_n hx hb dX12_titleAbove_22 rfl (lv_at hl 0 rfl) ?_
    refine rr_getA (k := 11) (j := 3) C hM f_X12_24 rfl rfl dX12_titleAbove_23 ?_
    refine lv_iload_n hx hb dX12_titleAbove_26 rfl (lv_at hl 1 rfl) ?_
    refine lv_iload_n hx hb dX12_titleAbove_27 rfl (lv_at hl 2 rfl) ?_
    refine r_S (As := [.int i0, .int i1]) (rest := [.ref (h0 + 1 + 3), .int i0, .ref (h0 + 1 + 10)]) C hM (c_X12_spot l D H0 (rM h0 R) kc ns i0 i1 (by omega) (by omega) (by omega) (by omega)) i_X12_spot m_X12_151 rfl hl.1 rfl (Nat.le_of_ble_eq_true rfl) ⟨by decide, by decide⟩ ⟨by decide, by decide⟩ dX12_titleAbove_28 (fun xv11 Sv8 kv9 nv10 H locs pv12 hM => ?_)
    obtain ⟨rfl, rfl, rfl, hxv11⟩ := pv12
    have ee9 : xv4 = xv11 := Int32.toInt_inj.mp (by omega)
    subst ee9
    refine W.eq (g2 := F0 m 31 ls [.int xv4, .ref (h0 + 1 + 3), .int i0, .ref (h0 + 1 + 10)]) rfl ?_
    refine rr_ldI (j := 3) (k := 11) (n := 1860) (v := xv6) C hM rfl rfl rfl (inI (by omega) (by show _ < (1860 : Int); omega)) ((congrFun (hF.gA 11 (by decide)) xv4.toNatClampNeg).trans exv6.symm) dX12_titleAbove_31 ?_
    refine r_S (As := [.int i0, .int xv6]) (rest := [.ref (h0 + 1 + 10)]) C hM (c_X12_spot l D H0 (rM h0 R) kc ns i0 xv6 (by omega) (by omega) (by omega) (by omega)) i_X12_spot m_X12_151 rfl hl.1 rfl (Nat.le_of_ble_eq_true rfl) ⟨by decide, by decide⟩ ⟨by decide, by decide⟩ dX12_titleAbove_32 (fun xv16 Sv13 kv14 nv15 H locs pv17 hM => ?_)
    obtain ⟨rfl, rfl, rfl, hxv16⟩ := pv17
    refine W.eq (g2 := F0 m 35 ls [.int xv16, .ref (h0 + 1 + 10)]) rfl ?_
    refine rr_ldJ (j := 10) (k := 18) (n := 1860) (v := rB R 18 xv16.toNatClampNeg) C hM rfl rfl rfl (inI (by omega) (by show _ < (1860 : Int); omega)) (congrFun (hF.gB 18 (by decide)) xv16.toNatClampNeg) dX12_titleAbove_35 ?_
    refine lv_topl (fun lv18 elv18 => ?_)
    exact r_retL C hr hlk hM (⟨rfl, rfl, rfl, trivial⟩) dX12_titleAbove_36
  · have tcv7 := leF cv7
    refine lv_lconst (v := 0) hx hb dX12_titleAbove_13 (by decide) ?_
    refine lv_goto (tgt := 36) hx hb dX12_titleAbove_14 (by decide) ?_
    exact r_retL C hr hlk hM (⟨rfl, rfl, rfl, trivial⟩) dX12_titleAbove_36
set_option maxHeartbeats 4000000 in
set_option maxRecDepth 100000 in
theorem c_X12_alike (l : Launch) (D : gD) (H0 : gB) (h0 : Nat) (R : RS) (kc ns : Nat) (i0 i1 i2 i3 : Int32) (hI : RI R) (g00 : 0 ≤ i0.toInt) (g10 : i0.toInt < 30) (p01 : 0 ≤ i1.toInt) (p11 : i1.toInt < (rA R 10 i0.toNatClampNeg).toInt) (g02 : 0 ≤ i2.toInt) (g12 : i2.toInt < 30) (p03 : 0 ≤ i3.toInt) (p13 : i3.toInt < (rA R 10 i2.toNatClampNeg).toInt)  : Met l yX12_alike (wsU yX12_alike cX12_alike 8 (some .int)) ({ frames := 3, cells := 0, slots := 0, locals := 70 } : Room) (mP D H0 (rM h0 R) kc ns [.ref h0, .int i0, .int i1, .int i2, .int i3]) (mQ D H0 gI (fun r S1 k1 n1 => rM h0 R = S1 ∧ kc = k1 ∧ ns = n1 ∧ True)) 0 0 (mF H0) := by
  refine r_met (own := RX12) (by decide +kernel) rfl (Nat.le_of_ble_eq_true rfl) ?_
  intro p e s m args below meth c C hr hlk hnm H ls hl hM
  obtain ⟨hx, hb, hml, hown, hts, -, -⟩ := id C
  have hl : lv_has ls 8 [(0, .ref h0), (1, .int i0), (2, .int i1), (3, .int i2), (4, .int i3)] := hl
  have hF : fr [] R R := fr.rf
  have hI0 := hI
  have t_0 : (0 : Int32).toInt = 0 := by decide
  have t_1 : (1 : Int32).toInt = 1 := by decide
  have t_2 : (2 : Int32).toInt = 2 := by decide
  have t_4 : (4 : Int32).toInt = 4 := by decide
  have t_8 : (8 : Int32).toInt = 8 := by decide
  have t_16 : (16 : Int32).toInt = 16 := by decide
  have t_32 : (32 : Int32).toInt = 32 := by decide
  have t_64 : (64 : Int32).toInt = 64 := by decide
  have t_128 : (128 : Int32).toInt = 128 := by decide
  have fm0 := RI.many hI i0.toNatClampNeg
  have fm2 := RI.many hI i2.toNatClampNeg
  refine lv_iload_n hx hb dX12_alike_0 rfl (lv_at hl 1 rfl) ?_
  refine lv_iload_n hx hb dX12_alike_1 rfl (lv_at hl 2 rfl) ?_
  refine r_S (As := [.int i0, .int i1]) (rest := []) C hM (c_X12_spot l D H0 (rM h0 R) kc ns i0 i1 (by omega) (by omega) (by omega) (by omega)) i_X12_spot m_X12_151 rfl hl.1 rfl (Nat.le_of_ble_eq_true rfl) ⟨by decide, by decide⟩ ⟨by decide, by decide⟩ dX12_alike_2 (fun xv4 Sv1 kv2 nv3 H locs pv5 hM => ?_)
  obtain ⟨rfl, rfl, rfl, hxv4⟩ := pv5
  refine W.eq (g2 := F0 m 5 ls [.int xv4]) rfl ?_
  refine lv_istore (lv' := [(5, .int xv4), (0, .ref h0), (1, .int i0), (2, .int i1), (3, .int i2), (4, .int i3)]) hx hb dX12_alike_5 hl (by decide) rfl (fun ls hl => ?_)
  refine lv_iload_n hx hb dX12_alike_7 rfl (lv_at hl 4 rfl) ?_
  refine lv_iload hx hb dX12_alike_8 (lv_at hl 5 rfl) ?_
  refine r_S (As := [.int i2, .int i3]) (rest := []) C hM (c_X12_spot l D H0 (rM h0 R) kc ns i2 i3 (by omega) (by omega) (by omega) (by omega)) i_X12_spot m_X12_151 rfl hl.1 rfl (Nat.le_of_ble_eq_true rfl) ⟨by decide, by decide⟩ ⟨by decide, by decide⟩ dX12_alike_10 (fun xv9 Sv6 kv7 nv8 H locs pv10 hM => ?_)
  obtain ⟨rfl, rfl, rfl, hxv9⟩ := pv10
  refine W.eq (g2 := F0 m 13 ls [.int xv9]) rfl ?_
  refine lv_istore (lv' := [(6, .int xv9), (5, .int xv4), (0, .ref h0), (1, .int i0), (2, .int i1), (3, .int i2), (4, .int i3)]) hx hb dX12_alike_13 hl (by decide) rfl (fun ls hl => ?_)
  have join38 : ∀ (b1 : Int32) (H : Heap) (locs : List Loc) (ls : Array Slot), lv_has ls 8 [(0, .ref h0), (1, .int i0), (2, .int i1), (3, .int i2), (4, .int i3), (5, .int xv4), (6, .int xv9)] → mH D H0 (rM h0 R) kc ns H locs → W p l e ({ frames := 3, cells := 0, slots := 0, locals := 70 } : Room) s m args below meth c H locs 0 0 (MQ below (mQ D H0 gI (fun r S1 k1 n1 => rM h0 R = S1 ∧ kc = k1 ∧ ns = n1 ∧ True)) args s 0 0 (mF H0)) (F0 m 38 ls [.int b1]) := by
    intro b1 H locs ls  hl hM
    refine lv_istore (lv' := [(7, .int b1), (0, .ref h0), (1, .int i0), (2, .int i1), (3, .int i2), (4, .int i3), (5, .int xv4), (6, .int xv9)]) hx hb dX12_alike_38 hl (by decide) rfl (fun ls hl => ?_)
    have join58 : ∀ (bt0 : Int32) (bu0 : Int32) (H : Heap) (locs : List Loc) (ls : Array Slot), lv_has ls 8 [(0, .ref h0), (1, .int i0), (2, .int i1), (3, .int i2), (4, .int i3), (5, .int xv4), (6, .int xv9), (7, .int b1)] → mH D H0 (rM h0 R) kc ns H locs → W p l e ({ frames := 3, cells := 0, slots := 0, locals := 70 } : Room) s m args below meth c H locs 0 0 (MQ below (mQ D H0 gI (fun r S1 k1 n1 => rM h0 R = S1 ∧ kc = k1 ∧ ns = n1 ∧ True)) args s 0 0 (mF H0)) (F0 m 58 ls [.int bt0, .int bu0]) := by
      intro bt0 bu0 H locs ls  hl hM
      refine lv_ior hx hb dX12_alike_58 ?_
      refine lv_topi (fun xv11 exv11 => ?_)
      refine lv_istore (lv' := [(7, .int xv11), (0, .ref h0), (1, .int i0), (2, .int i1), (3, .int i2), (4, .int i3), (5, .int xv4), (6, .int xv9)]) hx hb dX12_alike_59 hl (by decide) rfl (fun ls hl => ?_)
      have join86 : ∀ (bt1 : Int32) (bu1 : Int32) (H : Heap) (locs : List Loc) (ls : Array Slot), lv_has ls 8 [(0, .ref h0), (1, .int i0), (2, .int i1), (3, .int i2), (4, .int i3), (5, .int xv4), (6, .int xv9), (7, .int xv11)] → mH D H0 (rM h0 R) kc ns H locs → W p l e ({ frames := 3, cells := 0, slots := 0, locals := 70 } : Room) s m args below meth c H locs 0 0 (MQ below (mQ D H0 gI (fun r S1 k1 n1 => rM h0 R = S1 ∧ kc = k1 ∧ ns = n1 ∧ True)) args s 0 0 (mF H0)) (F0 m 86 ls [.int bt1, .int bu1]) := by
        intro bt1 bu1 H locs ls  hl hM
        refine lv_ior hx hb dX12_alike_86 ?_
        refine lv_topi (fun xv12 exv12 => ?_)
        refine lv_istore (lv' := [(7, .int xv12), (0, .ref h0), (1, .int i0), (2, .int i1), (3, .int i2), (4, .int i3), (5, .int xv4), (6, .int xv9)]) hx hb dX12_alike_87 hl (by decide) rfl (fun ls hl => ?_)
        have join114 : ∀ (bt2 : Int32) (bu2 : Int32) (H : Heap) (locs : List Loc) (ls : Array Slot), lv_has ls 8 [(0, .ref h0), (1, .int i0), (2, .int i1), (3, .int i2), (4, .int i3), (5, .int xv4), (6, .int xv9), (7, .int xv12)] → mH D H0 (rM h0 R) kc ns H locs → W p l e ({ frames := 3, cells := 0, slots := 0, locals := 70 } : Room) s m args below meth c H locs 0 0 (MQ below (mQ D H0 gI (fun r S1 k1 n1 => rM h0 R = S1 ∧ kc = k1 ∧ ns = n1 ∧ True)) args s 0 0 (mF H0)) (F0 m 114 ls [.int bt2, .int bu2]) := by
          intro bt2 bu2 H locs ls  hl hM
          refine lv_ior hx hb dX12_alike_114 ?_
          refine lv_topi (fun xv13 exv13 => ?_)
          refine lv_istore (lv' := [(7, .int xv13), (0, .ref h0), (1, .int i0), (2, .int i1), (3, .int i2), (4, .int i3), (5, .int xv4), (6, .int xv9)]) hx hb dX12_alike_115 hl (by decide) rfl (fun ls hl => ?_)
          have join142 : ∀ (bt3 : Int32) (bu3 : Int32) (H : Heap) (locs : List Loc) (ls : Array Slot), lv_has ls 8 [(0, .ref h0), (1, .int i0), (2, .int i1), (3, .int i2), (4, .int i3), (5, .int xv4), (6, .int xv9), (7, .int xv13)] → mH D H0 (rM h0 R) kc ns H locs → W p l e ({ frames := 3, cells := 0, slots := 0, locals := 70 } : Room) s m args below meth c H locs 0 0 (MQ below (mQ D H0 gI (fun r S1 k1 n1 => rM h0 R = S1 ∧ kc = k1 ∧ ns = n1 ∧ True)) args s 0 0 (mF H0)) (F0 m 142 ls [.int bt3, .int bu3]) := by
            intro bt3 bu3 H locs ls  hl hM
            refine lv_ior hx hb dX12_alike_142 ?_
            refine lv_topi (fun xv14 exv14 => ?_)
            refine lv_istore (lv' := [(7, .int xv14), (0, .ref h0), (1, .int i0), (2, .int i1), (3, .int i2), (4, .int i3), (5, .int xv4), (6, .int xv9)]) hx hb dX12_alike_143 hl (by decide) rfl (fun ls hl => ?_)
            have join170 : ∀ (bt4 : Int32) (bu4 : Int32) (H : Heap) (locs : List Loc) (ls : Array Slot), lv_has ls 8 [(0, .ref h0), (1, .int i0), (2, .int i1), (3, .int i2), (4, .int i3), (5, .int xv4), (6, .int xv9), (7, .int xv14)] → mH D H0 (rM h0 R) kc ns H locs → W p l e ({ frames := 3, cells := 0, slots := 0, locals := 70 } : Room) s m args below meth c H locs 0 0 (MQ below (mQ D H0 gI (fun r S1 k1 n1 => rM h0 R = S1 ∧ kc = k1 ∧ ns = n1 ∧ True)) args s 0 0 (mF H0)) (F0 m 170 ls [.int bt4, .int bu4]) := by
              intro bt4 bu4 H locs ls  hl hM
              refine lv_ior hx hb dX12_alike_170 ?_
              refine lv_topi (fun xv15 exv15 => ?_)
              refine lv_istore (lv' := [(7, .int xv15), (0, .ref h0), (1, .int i0), (2, .int i1), (3, .int i2), (4, .int i3), (5, .int xv4), (6, .int xv9)]) hx hb dX12_alike_171 hl (by decide) rfl (fun ls hl => ?_)
              have join193 : ∀ (bt5 : Int32) (bu5 : Int32) (H : Heap) (locs : List Loc) (ls : Array Slot), lv_has ls 8 [(0, .ref h0), (1, .int i0), (2, .int i1), (3, .int i2), (4, .int i3), (5, .int xv4), (6, .int xv9), (7, .int xv15)] → mH D H0 (rM h0 R) kc ns H locs → W p l e ({ frames := 3, cells := 0, slots := 0, locals := 70 } : Room) s m args below meth c H locs 0 0 (MQ below (mQ D H0 gI (fun r S1 k1 n1 => rM h0 R = S1 ∧ kc = k1 ∧ ns = n1 ∧ True)) args s 0 0 (mF H0)) (F0 m 193 ls [.int bt5, .int bu5]) := by
                intro bt5 bu5 H locs ls  hl hM
                refine lv_ior hx hb dX12_alike_193 ?_
                refine lv_topi (fun xv16 exv16 => ?_)
                refine lv_istore (lv' := [(7, .int xv16), (0, .ref h0), (1, .int i0), (2, .int i1), (3, .int i2), (4, .int i3), (5, .int xv4), (6, .int xv9)]) hx hb dX12_alike_194 hl (by decide) rfl (fun ls hl => ?_)
                have join217 : ∀ (bt6 : Int32) (bu6 : Int32) (H : Heap) (locs : List Loc) (ls : Array Slot), lv_has ls 8 [(0, .ref h0), (1, .int i0), (2, .int i1), (3, .int i2), (4, .int i3), (5, .int xv4), (6, .int xv9), (7, .int xv16)] → mH D H0 (rM h0 R) kc ns H locs → W p l e ({ frames := 3, cells := 0, slots := 0, locals := 70 } : Room) s m args below meth c H locs 0 0 (MQ below (mQ D H0 gI (fun r S1 k1 n1 => rM h0 R = S1 ∧ kc = k1 ∧ ns = n1 ∧ True)) args s 0 0 (mF H0)) (F0 m 217 ls [.int bt6, .int bu6]) := by
                  intro bt6 bu6 H locs ls  hl hM
                  refine lv_ior hx hb dX12_alike_217 ?_
                  refine lv_topi (fun xv17 exv17 => ?_)
                  exact r_retI C hr hlk hM (⟨rfl, rfl, rfl, trivial⟩) dX12_alike_218
                refine lv_iload hx hb dX12_alike_196 (lv_at hl 0 rfl) ?_
                refine lv_aload_n hx hb dX12_alike_198 rfl (lv_at hl 1 rfl) ?_
                refine lv_iload_n hx hb dX12_alike_199 rfl (lv_at hl 2 rfl) ?_
                refine lv_iload_n hx hb dX12_alike_200 rfl (lv_at hl 3 rfl) ?_
                refine lv_iload_n hx hb dX12_alike_201 rfl (lv_at hl 4 rfl) ?_
                refine lv_iload hx hb dX12_alike_202 (lv_at hl 5 rfl) ?_
                refine r_V (As := [.int i0, .int i1, .int i2, .int i3]) (rest := [.int xv16]) (ci := 12) C hM (c_X12_arePaths l D H0 h0 R kc ns i0 i1 i2 i3 hI0 (by omega) (by omega) (by omega) (by omega) (by omega) (by omega) (by omega) (by omega)) i_X12_arePaths m_X12_269 rK0 rfl rfl rfl hl.1 rfl (Nat.le_of_ble_eq_true rfl) ⟨by decide, by decide⟩ ⟨by decide, by decide⟩ dX12_alike_204 (fun xv21 Sv18 kv19 nv20 H locs pv22 hM => ?_)
                obtain ⟨rfl, rfl, rfl, hxv21⟩ := pv22
                refine W.eq (g2 := F0 m 207 ls [.int xv21, .int xv16]) rfl ?_
                refine lv_if_eq (tgt := 216) hx hb dX12_alike_207 (by decide) (fun cv23 => ?_) (fun cv23 => ?_)
                · have tcv23 := eqT cv23
                  refine lv_iconst (v := 0) hx hb dX12_alike_216 (by decide) ?_
                  exact join217 0 xv16 _ _ _  (lv_sub hl [1, 2, 3, 4, 5, 6, 7, 0] rfl) hM
                · have tcv23 := eqF cv23
                  refine lv_sipush (v := 128) hx hb dX12_alike_210 (by decide) ?_
                  refine lv_goto (tgt := 217) hx hb dX12_alike_213 (by decide) ?_
                  exact join217 128 xv16 _ _ _  (lv_sub hl [1, 2, 3, 4, 5, 6, 7, 0] rfl) hM
              refine lv_iload hx hb dX12_alike_173 (lv_at hl 0 rfl) ?_
              refine lv_aload_n hx hb dX12_alike_175 rfl (lv_at hl 1 rfl) ?_
              refine lv_iload_n hx hb dX12_alike_176 rfl (lv_at hl 2 rfl) ?_
              refine lv_iload_n hx hb dX12_alike_177 rfl (lv_at hl 3 rfl) ?_
              refine lv_iload_n hx hb dX12_alike_178 rfl (lv_at hl 4 rfl) ?_
              refine lv_iload hx hb dX12_alike_179 (lv_at hl 5 rfl) ?_
              refine r_V (As := [.int i0, .int i1, .int i2, .int i3]) (rest := [.int xv15]) (ci := 12) C hM (c_X12_areLabels l D H0 h0 R kc ns i0 i1 i2 i3 hI0 (by omega) (by omega) (by omega) (by omega) (by omega) (by omega) (by omega) (by omega)) i_X12_areLabels m_X12_265 rK0 rfl rfl rfl hl.1 rfl (Nat.le_of_ble_eq_true rfl) ⟨by decide, by decide⟩ ⟨by decide, by decide⟩ dX12_alike_181 (fun xv27 Sv24 kv25 nv26 H locs pv28 hM => ?_)
              obtain ⟨rfl, rfl, rfl, hxv27⟩ := pv28
              refine W.eq (g2 := F0 m 184 ls [.int xv27, .int xv15]) rfl ?_
              refine lv_if_eq (tgt := 192) hx hb dX12_alike_184 (by decide) (fun cv29 => ?_) (fun cv29 => ?_)
              · have tcv29 := eqT cv29
                refine lv_iconst (v := 0) hx hb dX12_alike_192 (by decide) ?_
                exact join193 0 xv15 _ _ _  (lv_sub hl [1, 2, 3, 4, 5, 6, 7, 0] rfl) hM
              · have tcv29 := eqF cv29
                refine lv_bipush (v := 64) hx hb dX12_alike_187 (by decide) ?_
                refine lv_goto (tgt := 193) hx hb dX12_alike_189 (by decide) ?_
                exact join193 64 xv15 _ _ _  (lv_sub hl [1, 2, 3, 4, 5, 6, 7, 0] rfl) hM
            refine lv_iload hx hb dX12_alike_145 (lv_at hl 0 rfl) ?_
            refine lv_aload_n hx hb dX12_alike_147 rfl (lv_at hl 1 rfl) ?_
            refine lv_iload_n hx hb dX12_alike_148 rfl (lv_at hl 2 rfl) ?_
            refine lv_iload_n hx hb dX12_alike_149 rfl (lv_at hl 3 rfl) ?_
            refine r_V (As := [.int i0, .int i1]) (rest := [.int xv14]) (ci := 12) C hM (c_X12_titleAbove l D H0 h0 R kc ns i0 i1 hI0 (by omega) (by omega) (by omega) (by omega)) i_X12_titleAbove m_X12_262 rK0 rfl rfl rfl hl.1 rfl (Nat.le_of_ble_eq_true rfl) ⟨by decide, by decide⟩ ⟨by decide, by decide⟩ dX12_alike_150 (fun lv33 Sv30 kv31 nv32 H locs pv34 hM => ?_)
            obtain ⟨rfl, rfl, rfl, hlv33⟩ := pv34
            refine W.eq (g2 := F0 m 153 ls [.long lv33, .int xv14]) rfl ?_
            refine lv_aload_n hx hb dX12_alike_153 rfl (lv_at hl 1 rfl) ?_
            refine lv_iload_n hx hb dX12_alike_154 rfl (lv_at hl 4 rfl) ?_
            refine lv_iload hx hb dX12_alike_155 (lv_at hl 5 rfl) ?_
            refine r_V (As := [.int i2, .int i3]) (rest := [.long lv33, .int xv14]) (ci := 12) C hM (c_X12_titleAbove l D H0 h0 R kc ns i2 i3 hI0 (by omega) (by omega) (by omega) (by omega)) i_X12_titleAbove m_X12_262 rK0 rfl rfl rfl hl.1 rfl (Nat.le_of_ble_eq_true rfl) ⟨by decide, by decide⟩ ⟨by decide, by decide⟩ dX12_alike_157 (fun lv38 Sv35 kv36 nv37 H locs pv39 hM => ?_)
            obtain ⟨rfl, rfl, rfl, hlv38⟩ := pv39
            refine W.eq (g2 := F0 m 160 ls [.long lv38, .long lv33, .int xv14]) rfl ?_
            refine W.lcmp hx hb dX12_alike_160 ?_
            refine lv_topi (fun xv40 exv40 => ?_)
            refine lv_if_ne (tgt := 169) hx hb dX12_alike_161 (by decide) (fun cv41 => ?_) (fun cv41 => ?_)
            · have tcv41 := eqF cv41
              refine lv_iconst (v := 0) hx hb dX12_alike_169 (by decide) ?_
              exact join170 0 xv14 _ _ _  (lv_sub hl [1, 2, 3, 4, 5, 6, 7, 0] rfl) hM
            · have tcv41 := eqT cv41
              refine lv_bipush (v := 32) hx hb dX12_alike_164 (by decide) ?_
              refine lv_goto (tgt := 170) hx hb dX12_alike_166 (by decide) ?_
              exact join170 32 xv14 _ _ _  (lv_sub hl [1, 2, 3, 4, 5, 6, 7, 0] rfl) hM
          refine lv_iload hx hb dX12_alike_117 (lv_at hl 0 rfl) ?_
          refine lv_aload_n hx hb dX12_alike_119 rfl (lv_at hl 1 rfl) ?_
          refine lv_iload_n hx hb dX12_alike_120 rfl (lv_at hl 2 rfl) ?_
          refine lv_iload_n hx hb dX12_alike_121 rfl (lv_at hl 3 rfl) ?_
          refine r_V (As := [.int i0, .int i1]) (rest := [.int xv13]) (ci := 12) C hM (c_X12_kindAbove l D H0 h0 R kc ns i0 i1 hI0 (by omega) (by omega) (by omega) (by omega)) i_X12_kindAbove m_X12_258 rK0 rfl rfl rfl hl.1 rfl (Nat.le_of_ble_eq_true rfl) ⟨by decide, by decide⟩ ⟨by decide, by decide⟩ dX12_alike_122 (fun lv45 Sv42 kv43 nv44 H locs pv46 hM => ?_)
          obtain ⟨rfl, rfl, rfl, hlv45⟩ := pv46
          refine W.eq (g2 := F0 m 125 ls [.long lv45, .int xv13]) rfl ?_
          refine lv_aload_n hx hb dX12_alike_125 rfl (lv_at hl 1 rfl) ?_
          refine lv_iload_n hx hb dX12_alike_126 rfl (lv_at hl 4 rfl) ?_
          refine lv_iload hx hb dX12_alike_127 (lv_at hl 5 rfl) ?_
          refine r_V (As := [.int i2, .int i3]) (rest := [.long lv45, .int xv13]) (ci := 12) C hM (c_X12_kindAbove l D H0 h0 R kc ns i2 i3 hI0 (by omega) (by omega) (by omega) (by omega)) i_X12_kindAbove m_X12_258 rK0 rfl rfl rfl hl.1 rfl (Nat.le_of_ble_eq_true rfl) ⟨by decide, by decide⟩ ⟨by decide, by decide⟩ dX12_alike_129 (fun lv50 Sv47 kv48 nv49 H locs pv51 hM => ?_)
          obtain ⟨rfl, rfl, rfl, hlv50⟩ := pv51
          refine W.eq (g2 := F0 m 132 ls [.long lv50, .long lv45, .int xv13]) rfl ?_
          refine W.lcmp hx hb dX12_alike_132 ?_
          refine lv_topi (fun xv52 exv52 => ?_)
          refine lv_if_ne (tgt := 141) hx hb dX12_alike_133 (by decide) (fun cv53 => ?_) (fun cv53 => ?_)
          · have tcv53 := eqF cv53
            refine lv_iconst (v := 0) hx hb dX12_alike_141 (by decide) ?_
            exact join142 0 xv13 _ _ _  (lv_sub hl [1, 2, 3, 4, 5, 6, 7, 0] rfl) hM
          · have tcv53 := eqT cv53
            refine lv_bipush (v := 16) hx hb dX12_alike_136 (by decide) ?_
            refine lv_goto (tgt := 142) hx hb dX12_alike_138 (by decide) ?_
            exact join142 16 xv13 _ _ _  (lv_sub hl [1, 2, 3, 4, 5, 6, 7, 0] rfl) hM
        refine lv_iload hx hb dX12_alike_89 (lv_at hl 0 rfl) ?_
        refine lv_aload_n hx hb dX12_alike_91 rfl (lv_at hl 1 rfl) ?_
        refine rr_getA (k := 13) (j := 5) C hM f_X12_30 rfl rfl dX12_alike_92 ?_
        refine lv_iload hx hb dX12_alike_95 (lv_at hl 6 rfl) ?_
        refine rr_ldI (j := 5) (k := 13) (n := 1860) (v := rA R 13 xv4.toNatClampNeg) C hM rfl rfl rfl (inI (by omega) (by show _ < (1860 : Int); omega)) (congrFun (hF.gA 13 (by decide)) xv4.toNatClampNeg) dX12_alike_97 ?_
        refine lv_topi (fun xv54 exv54 => ?_)
        refine lv_aload_n hx hb dX12_alike_98 rfl (lv_at hl 1 rfl) ?_
        refine rr_getA (k := 13) (j := 5) C hM f_X12_30 rfl rfl dX12_alike_99 ?_
        refine lv_iload hx hb dX12_alike_102 (lv_at hl 7 rfl) ?_
        refine rr_ldI (j := 5) (k := 13) (n := 1860) (v := rA R 13 xv9.toNatClampNeg) C hM rfl rfl rfl (inI (by omega) (by show _ < (1860 : Int); omega)) (congrFun (hF.gA 13 (by decide)) xv9.toNatClampNeg) dX12_alike_104 ?_
        refine lv_topi (fun xv55 exv55 => ?_)
        refine lv_icmp_ne (tgt := 113) hx hb dX12_alike_105 (by decide) (fun cv56 => ?_) (fun cv56 => ?_)
        · have tcv56 := eqF cv56
          refine lv_iconst (v := 0) hx hb dX12_alike_113 (by decide) ?_
          exact join114 0 xv12 _ _ _  (lv_sub hl [1, 2, 3, 4, 5, 6, 7, 0] rfl) hM
        · have tcv56 := eqT cv56
          refine lv_bipush (v := 8) hx hb dX12_alike_108 (by decide) ?_
          refine lv_goto (tgt := 114) hx hb dX12_alike_110 (by decide) ?_
          exact join114 8 xv12 _ _ _  (lv_sub hl [1, 2, 3, 4, 5, 6, 7, 0] rfl) hM
      refine lv_iload hx hb dX12_alike_61 (lv_at hl 0 rfl) ?_
      refine lv_aload_n hx hb dX12_alike_63 rfl (lv_at hl 1 rfl) ?_
      refine rr_getA (k := 17) (j := 9) C hM f_X12_42 rfl rfl dX12_alike_64 ?_
      refine lv_iload hx hb dX12_alike_67 (lv_at hl 6 rfl) ?_
      refine rr_ldJ (j := 9) (k := 17) (n := 1860) (v := rB R 17 xv4.toNatClampNeg) C hM rfl rfl rfl (inI (by omega) (by show _ < (1860 : Int); omega)) (congrFun (hF.gB 17 (by decide)) xv4.toNatClampNeg) dX12_alike_69 ?_
      refine lv_topl (fun lv57 elv57 => ?_)
      refine lv_aload_n hx hb dX12_alike_70 rfl (lv_at hl 1 rfl) ?_
      refine rr_getA (k := 17) (j := 9) C hM f_X12_42 rfl rfl dX12_alike_71 ?_
      refine lv_iload hx hb dX12_alike_74 (lv_at hl 7 rfl) ?_
      refine rr_ldJ (j := 9) (k := 17) (n := 1860) (v := rB R 17 xv9.toNatClampNeg) C hM rfl rfl rfl (inI (by omega) (by show _ < (1860 : Int); omega)) (congrFun (hF.gB 17 (by decide)) xv9.toNatClampNeg) dX12_alike_76 ?_
      refine lv_topl (fun lv58 elv58 => ?_)
      refine W.lcmp hx hb dX12_alike_77 ?_
      refine lv_topi (fun xv59 exv59 => ?_)
      refine lv_if_ne (tgt := 85) hx hb dX12_alike_78 (by decide) (fun cv60 => ?_) (fun cv60 => ?_)
      · have tcv60 := eqF cv60
        refine lv_iconst (v := 0) hx hb dX12_alike_85 (by decide) ?_
        exact join86 0 xv11 _ _ _  (lv_sub hl [1, 2, 3, 4, 5, 6, 7, 0] rfl) hM
      · have tcv60 := eqT cv60
        refine lv_iconst (v := 4) hx hb dX12_alike_81 (by decide) ?_
        refine lv_goto (tgt := 86) hx hb dX12_alike_82 (by decide) ?_
        exact join86 4 xv11 _ _ _  (lv_sub hl [1, 2, 3, 4, 5, 6, 7, 0] rfl) hM
    refine lv_iload hx hb dX12_alike_40 (lv_at hl 0 rfl) ?_
    refine lv_aload_n hx hb dX12_alike_42 rfl (lv_at hl 1 rfl) ?_
    refine lv_iload hx hb dX12_alike_43 (lv_at hl 6 rfl) ?_
    refine lv_iload hx hb dX12_alike_45 (lv_at hl 7 rfl) ?_
    refine r_V (As := [.int xv4, .int xv9]) (rest := [.int b1]) (ci := 12) C hM (c_X12_areSameWords l D H0 h0 R kc ns xv4 xv9 hI0 (by omega) (by omega) (by omega) (by omega)) i_X12_areSameWords m_X12_204 rK0 rfl rfl rfl hl.1 rfl (Nat.le_of_ble_eq_true rfl) ⟨by decide, by decide⟩ ⟨by decide, by decide⟩ dX12_alike_47 (fun xv64 Sv61 kv62 nv63 H locs pv65 hM => ?_)
    obtain ⟨rfl, rfl, rfl, hxv64⟩ := pv65
    refine W.eq (g2 := F0 m 50 ls [.int xv64, .int b1]) rfl ?_
    refine lv_if_eq (tgt := 57) hx hb dX12_alike_50 (by decide) (fun cv66 => ?_) (fun cv66 => ?_)
    · have tcv66 := eqT cv66
      refine lv_iconst (v := 0) hx hb dX12_alike_57 (by decide) ?_
      exact join58 0 b1 _ _ _  (lv_sub hl [1, 2, 3, 4, 5, 6, 7, 0] rfl) hM
    · have tcv66 := eqF cv66
      refine lv_iconst (v := 2) hx hb dX12_alike_53 (by decide) ?_
      refine lv_goto (tgt := 58) hx hb dX12_alike_54 (by decide) ?_
      exact join58 2 b1 _ _ _  (lv_sub hl [1, 2, 3, 4, 5, 6, 7, 0] rfl) hM
  refine lv_aload_n hx hb dX12_alike_15 rfl (lv_at hl 2 rfl) ?_
  refine rr_getA (k := 18) (j := 10) C hM f_X12_46 rfl rfl dX12_alike_16 ?_
  refine lv_iload hx hb dX12_alike_19 (lv_at hl 1 rfl) ?_
  refine rr_ldJ (j := 10) (k := 18) (n := 1860) (v := rB R 18 xv4.toNatClampNeg) C hM rfl rfl rfl (inI (by omega) (by show _ < (1860 : Int); omega)) (congrFun (hF.gB 18 (by decide)) xv4.toNatClampNeg) dX12_alike_21 ?_
  refine lv_topl (fun lv67 elv67 => ?_)
  refine lv_aload_n hx hb dX12_alike_22 rfl (lv_at hl 2 rfl) ?_
  refine rr_getA (k := 18) (j := 10) C hM f_X12_46 rfl rfl dX12_alike_23 ?_
  refine lv_iload hx hb dX12_alike_26 (lv_at hl 0 rfl) ?_
  refine rr_ldJ (j := 10) (k := 18) (n := 1860) (v := rB R 18 xv9.toNatClampNeg) C hM rfl rfl rfl (inI (by omega) (by show _ < (1860 : Int); omega)) (congrFun (hF.gB 18 (by decide)) xv9.toNatClampNeg) dX12_alike_28 ?_
  refine lv_topl (fun lv68 elv68 => ?_)
  refine W.lcmp hx hb dX12_alike_29 ?_
  refine lv_topi (fun xv69 exv69 => ?_)
  refine lv_if_ne (tgt := 37) hx hb dX12_alike_30 (by decide) (fun cv70 => ?_) (fun cv70 => ?_)
  · have tcv70 := eqF cv70
    refine lv_iconst (v := 0) hx hb dX12_alike_37 (by decide) ?_
    exact join38 0 _ _ _  (lv_sub hl [2, 3, 4, 5, 6, 1, 0] rfl) hM
  · have tcv70 := eqT cv70
    refine lv_iconst (v := 1) hx hb dX12_alike_33 (by decide) ?_
    refine lv_goto (tgt := 38) hx hb dX12_alike_34 (by decide) ?_
    exact join38 1 _ _ _  (lv_sub hl [2, 3, 4, 5, 6, 1, 0] rfl) hM
set_option maxHeartbeats 4000000 in
set_option maxRecDepth 100000 in
theorem c_X12_fits (l : Launch) (D : gD) (H0 : gB) (h0 : Nat) (R : RS) (kc ns : Nat) (i0 i1 i2 i3 : Int32) (hI : RI R)  : Met l yX12_fits (wsU yX12_fits cX12_fits 7 (some .int)) ({ frames := 4, cells := 0, slots := 0, locals := 97 } : Room) (mP D H0 (rM h0 R) kc ns [.ref h0, .int i0, .int i1, .int i2, .int i3]) (mQ D H0 gI (fun r S1 k1 n1 => rM h0 R = S1 ∧ kc = k1 ∧ ns = n1 ∧ True)) 0 0 (mF H0) := by
  refine r_met (own := RX12) (by decide +kernel) rfl (Nat.le_of_ble_eq_true rfl) ?_
  intro p e s m args below meth c C hr hlk hnm H ls hl hM
  obtain ⟨hx, hb, hml, hown, hts, -, -⟩ := id C
  have hl : lv_has ls 7 [(0, .ref h0), (1, .int i0), (2, .int i1), (3, .int i2), (4, .int i3)] := hl
  have hF : fr [] R R := fr.rf
  have hI0 := hI
  have t_m1 : (-1 : Int32).toInt = -1 := by decide
  have t_0 : (0 : Int32).toInt = 0 := by decide
  have t_1 : (1 : Int32).toInt = 1 := by decide
  have t_255 : (255 : Int32).toInt = 255 := by decide
  have fm0 := RI.many hI i0.toNatClampNeg
  have fm3 := RI.many hI i3.toNatClampNeg
  refine lv_aload_n hx hb dX12_fits_0 rfl (lv_at hl 0 rfl) ?_
  refine lv_iload_n hx hb dX12_fits_1 rfl (lv_at hl 1 rfl) ?_
  refine lv_iload_n hx hb dX12_fits_2 rfl (lv_at hl 2 rfl) ?_
  refine r_V (As := [.int i0, .int i1]) (rest := []) (ci := 12) C hM (c_X12_isPart l D H0 h0 R kc ns i0 i1 hI0) i_X12_isPart m_X12_185 rK0 rfl rfl rfl hl.1 rfl (Nat.le_of_ble_eq_true rfl) ⟨by decide, by decide⟩ ⟨by decide, by decide⟩ dX12_fits_3 (fun xv4 Sv1 kv2 nv3 H locs pv5 hM => ?_)
  obtain ⟨rfl, rfl, rfl, hxv4⟩ := pv5
  refine W.eq (g2 := F0 m 6 ls [.int xv4]) rfl ?_
  refine lv_if_eq (tgt := 30) hx hb dX12_fits_6 (by decide) (fun cv6 => ?_) (fun cv6 => ?_)
  · have tcv6 := eqT cv6
    refine lv_iconst (v := -1) hx hb dX12_fits_30 (by decide) ?_
    exact r_retI C hr hlk hM (⟨rfl, rfl, rfl, trivial⟩) dX12_fits_31
  · have tcv6 := eqF cv6
    refine lv_iload_n hx hb dX12_fits_9 rfl (lv_at hl 3 rfl) ?_
    refine lv_iconst (v := 1) hx hb dX12_fits_10 (by decide) ?_
    refine lv_icmp_lt (tgt := 30) hx hb dX12_fits_11 (by decide) (fun cv7 => ?_) (fun cv7 => ?_)
    · have tcv7 := ltT cv7
      refine lv_iconst (v := -1) hx hb dX12_fits_30 (by decide) ?_
      exact r_retI C hr hlk hM (⟨rfl, rfl, rfl, trivial⟩) dX12_fits_31
    · have tcv7 := ltF cv7
      refine lv_iload_n hx hb dX12_fits_14 rfl (lv_at hl 3 rfl) ?_
      refine lv_sipush (v := 255) hx hb dX12_fits_15 (by decide) ?_
      refine lv_icmp_gt (tgt := 30) hx hb dX12_fits_18 (by decide) (fun cv8 => ?_) (fun cv8 => ?_)
      · have tcv8 := ltT cv8
        refine lv_iconst (v := -1) hx hb dX12_fits_30 (by decide) ?_
        exact r_retI C hr hlk hM (⟨rfl, rfl, rfl, trivial⟩) dX12_fits_31
      · have tcv8 := ltF cv8
        refine lv_aload_n hx hb dX12_fits_21 rfl (lv_at hl 0 rfl) ?_
        refine lv_iload hx hb dX12_fits_22 (lv_at hl 4 rfl) ?_
        refine r_V (As := [.int i3]) (rest := []) (ci := 12) C hM (c_X12_hasPage l D H0 h0 R kc ns i3 hI0) i_X12_hasPage m_X12_235 rK0 rfl rfl rfl hl.1 rfl (Nat.le_of_ble_eq_true rfl) ⟨by decide, by decide⟩ ⟨by decide, by decide⟩ dX12_fits_24 (fun xv12 Sv9 kv10 nv11 H locs pv13 hM => ?_)
        obtain ⟨rfl, rfl, rfl, hxv12⟩ := pv13
        refine W.eq (g2 := F0 m 27 ls [.int xv12]) rfl ?_
        refine lv_if_ne (tgt := 32) hx hb dX12_fits_27 (by decide) (fun cv14 => ?_) (fun cv14 => ?_)
        · have tcv14 := eqF cv14
          refine lv_iconst (v := 0) hx hb dX12_fits_32 (by decide) ?_
          refine lv_istore (lv' := [(5, .int 0), (0, .ref h0), (1, .int i0), (2, .int i1), (3, .int i2), (4, .int i3)]) hx hb dX12_fits_33 hl (by decide) rfl (fun ls hl => ?_)
          refine lv_iconst (v := 0) hx hb dX12_fits_35 (by decide) ?_
          refine lv_istore (lv' := [(6, .int 0), (5, .int 0), (0, .ref h0), (1, .int i0), (2, .int i1), (3, .int i2), (4, .int i3)]) hx hb dX12_fits_36 hl (by decide) rfl (fun ls hl => ?_)
          have loop38 : ∀ (fu : Nat) (bz : Int32) (nz : Int32) (H : Heap) (locs : List Loc) (ls : Array Slot), (0 ≤ bz.toInt) → (60 - bz.toInt).toNat < fu → lv_has ls 7 [(0, .ref h0), (1, .int i0), (2, .int i1), (3, .int i2), (4, .int i3), (5, .int nz), (6, .int bz)] → mH D H0 (rM h0 R) kc ns H locs → W p l e ({ frames := 4, cells := 0, slots := 0, locals := 97 } : Room) s m args below meth c H locs 0 0 (MQ below (mQ D H0 gI (fun r S1 k1 n1 => rM h0 R = S1 ∧ kc = k1 ∧ ns = n1 ∧ True)) args s 0 0 (mF H0)) (F0 m 38 ls []) := by
            intro fu
            induction fu with
            | zero => intro bz nz H locs ls h38_0 hfu; exact absurd hfu (by omega)
            | succ fu ih38 =>
              intro bz nz H locs ls h38_0 hfu hl hM
              refine lv_iload hx hb dX12_fits_38 (lv_at hl 6 rfl) ?_
              refine lv_aload_n hx hb dX12_fits_40 rfl (lv_at hl 0 rfl) ?_
              refine rr_getA (k := 10) (j := 2) C hM f_X12_20 rfl rfl dX12_fits_41 ?_
              refine lv_iload hx hb dX12_fits_44 (lv_at hl 4 rfl) ?_
              refine rr_ldI (j := 2) (k := 10) (n := 31) (v := rA R 10 i3.toNatClampNeg) C hM rfl rfl rfl (inI (by omega) (by show _ < (31 : Int); omega)) (congrFun (hF.gA 10 (by decide)) i3.toNatClampNeg) dX12_fits_46 ?_
              refine lv_topi (fun xv15 exv15 => ?_)
              have mxv15 : xv15.toInt = (rA R 10 i3.toNatClampNeg).toInt := by rw [exv15]
              have fxv15 := RI.many hI0 i3.toNatClampNeg; rw [← exv15] at fxv15
              refine lv_icmp_ge (tgt := 82) hx hb dX12_fits_47 (by decide) (fun cv16 => ?_) (fun cv16 => ?_)
              · have tcv16 := leT cv16
                refine lv_iload hx hb dX12_fits_82 (lv_at hl 5 rfl) ?_
                exact r_retI C hr hlk hM (⟨rfl, rfl, rfl, trivial⟩) dX12_fits_84
              · have tcv16 := leF cv16
                refine lv_iload hx hb dX12_fits_50 (lv_at hl 5 rfl) ?_
                refine lv_aload_n hx hb dX12_fits_52 rfl (lv_at hl 0 rfl) ?_
                refine lv_iload_n hx hb dX12_fits_53 rfl (lv_at hl 1 rfl) ?_
                refine lv_iload_n hx hb dX12_fits_54 rfl (lv_at hl 2 rfl) ?_
                refine lv_iload hx hb dX12_fits_55 (lv_at hl 4 rfl) ?_
                refine lv_iload hx hb dX12_fits_57 (lv_at hl 6 rfl) ?_
                refine r_V (As := [.int i0, .int i1, .int i3, .int bz]) (rest := [.int nz]) (ci := 12) C hM (c_X12_alike l D H0 h0 R kc ns i0 i1 i3 bz hI0 (by omega) (by omega) (by omega) (by omega) (by omega) (by omega) (by omega) (by omega)) i_X12_alike m_X12_272 rK0 rfl rfl rfl hl.1 rfl (Nat.le_of_ble_eq_true rfl) ⟨by decide, by decide⟩ ⟨by decide, by decide⟩ dX12_fits_59 (fun xv20 Sv17 kv18 nv19 H locs pv21 hM => ?_)
                obtain ⟨rfl, rfl, rfl, hxv20⟩ := pv21
                refine W.eq (g2 := F0 m 62 ls [.int xv20, .int nz]) rfl ?_
                refine lv_iload_n hx hb dX12_fits_62 rfl (lv_at hl 3 rfl) ?_
                refine lv_iand hx hb dX12_fits_63 ?_
                refine lv_topi (fun xv22 exv22 => ?_)
                refine lv_iload_n hx hb dX12_fits_64 rfl (lv_at hl 3 rfl) ?_
                refine lv_icmp_ne (tgt := 72) hx hb dX12_fits_65 (by decide) (fun cv23 => ?_) (fun cv23 => ?_)
                · have tcv23 := eqF cv23
                  refine lv_iconst (v := 0) hx hb dX12_fits_72 (by decide) ?_
                  refine lv_iadd hx hb dX12_fits_73 ?_
                  refine lv_topi (fun xv24 exv24 => ?_)
                  try (have txv24 := addI (a := nz) (b := 0) (by omega) (by omega); rw [← exv24] at txv24)
                  refine lv_istore (lv' := [(5, .int xv24), (0, .ref h0), (1, .int i0), (2, .int i1), (3, .int i2), (4, .int i3), (6, .int bz)]) hx hb dX12_fits_74 hl (by decide) rfl (fun ls hl => ?_)
                  obtain ⟨xv25, exv25⟩ : ∃ y : Int32, y = bz + 1 := ⟨_, rfl⟩
                  try (have txv25 := addI (a := bz) (b := 1) (by omega) (by omega); rw [← exv25] at txv25)
                  refine lv_iinc (v := xv25) (lv' := [(6, .int xv25), (5, .int xv24), (0, .ref h0), (1, .int i0), (2, .int i1), (3, .int i2), (4, .int i3)]) hx hb dX12_fits_76 hl (k := 6) rfl (by rw [exv25]; rfl) (by decide) rfl (fun ls hl => ?_)
                  refine lv_goto (tgt := 38) hx hb dX12_fits_79 (by decide) ?_
                  exact ih38 xv25 xv24 _ _ _ (by omega) (by omega) (lv_sub hl [2, 3, 4, 5, 6, 1, 0] rfl) hM
                · have tcv23 := eqT cv23
                  refine lv_iconst (v := 1) hx hb dX12_fits_68 (by decide) ?_
                  refine lv_goto (tgt := 73) hx hb dX12_fits_69 (by decide) ?_
                  refine lv_iadd hx hb dX12_fits_73 ?_
                  refine lv_topi (fun xv26 exv26 => ?_)
                  try (have txv26 := addI (a := nz) (b := 1) (by omega) (by omega); rw [← exv26] at txv26)
                  refine lv_istore (lv' := [(5, .int xv26), (0, .ref h0), (1, .int i0), (2, .int i1), (3, .int i2), (4, .int i3), (6, .int bz)]) hx hb dX12_fits_74 hl (by decide) rfl (fun ls hl => ?_)
                  obtain ⟨xv27, exv27⟩ : ∃ y : Int32, y = bz + 1 := ⟨_, rfl⟩
                  try (have txv27 := addI (a := bz) (b := 1) (by omega) (by omega); rw [← exv27] at txv27)
                  refine lv_iinc (v := xv27) (lv' := [(6, .int xv27), (5, .int xv26), (0, .ref h0), (1, .int i0), (2, .int i1), (3, .int i2), (4, .int i3)]) hx hb dX12_fits_76 hl (k := 6) rfl (by rw [exv27]; rfl) (by decide) rfl (fun ls hl => ?_)
                  refine lv_goto (tgt := 38) hx hb dX12_fits_79 (by decide) ?_
                  exact ih38 xv27 xv26 _ _ _ (by omega) (by omega) (lv_sub hl [2, 3, 4, 5, 6, 1, 0] rfl) hM
          exact loop38 (((60 - (0 : Int32).toInt).toNat) + 1) 0 0 _ _ _ (by omega) (by omega) (lv_sub hl [2, 3, 4, 5, 6, 1, 0] rfl) hM
        · have tcv14 := eqT cv14
          refine lv_iconst (v := -1) hx hb dX12_fits_30 (by decide) ?_
          exact r_retI C hr hlk hM (⟨rfl, rfl, rfl, trivial⟩) dX12_fits_31
set_option maxHeartbeats 4000000 in
set_option maxRecDepth 100000 in
theorem c_X12_fit (l : Launch) (D : gD) (H0 : gB) (h0 : Nat) (R : RS) (kc ns : Nat) (i0 i1 i2 i3 i4 : Int32) (hI : RI R)  : Met l yX12_fit (wsU yX12_fit cX12_fit 8 (some .int)) ({ frames := 4, cells := 0, slots := 0, locals := 97 } : Room) (mP D H0 (rM h0 R) kc ns [.ref h0, .int i0, .int i1, .int i2, .int i3, .int i4]) (mQ D H0 gI (fun r S1 k1 n1 => rM h0 R = S1 ∧ kc = k1 ∧ ns = n1 ∧ True)) 0 0 (mF H0) := by
  refine r_met (own := RX12) (by decide +kernel) rfl (Nat.le_of_ble_eq_true rfl) ?_
  intro p e s m args below meth c C hr hlk hnm H ls hl hM
  obtain ⟨hx, hb, hml, hown, hts, -, -⟩ := id C
  have hl : lv_has ls 8 [(0, .ref h0), (1, .int i0), (2, .int i1), (3, .int i2), (4, .int i3), (5, .int i4)] := hl
  have hF : fr [] R R := fr.rf
  have hI0 := hI
  have t_m1 : (-1 : Int32).toInt = -1 := by decide
  have t_0 : (0 : Int32).toInt = 0 := by decide
  have t_1 : (1 : Int32).toInt = 1 := by decide
  have t_255 : (255 : Int32).toInt = 255 := by decide
  have fm0 := RI.many hI i0.toNatClampNeg
  have fm3 := RI.many hI i3.toNatClampNeg
  refine lv_aload_n hx hb dX12_fit_0 rfl (lv_at hl 0 rfl) ?_
  refine lv_iload_n hx hb dX12_fit_1 rfl (lv_at hl 1 rfl) ?_
  refine lv_iload_n hx hb dX12_fit_2 rfl (lv_at hl 2 rfl) ?_
  refine r_V (As := [.int i0, .int i1]) (rest := []) (ci := 12) C hM (c_X12_isPart l D H0 h0 R kc ns i0 i1 hI0) i_X12_isPart m_X12_185 rK0 rfl rfl rfl hl.1 rfl (Nat.le_of_ble_eq_true rfl) ⟨by decide, by decide⟩ ⟨by decide, by decide⟩ dX12_fit_3 (fun xv4 Sv1 kv2 nv3 H locs pv5 hM => ?_)
  obtain ⟨rfl, rfl, rfl, hxv4⟩ := pv5
  refine W.eq (g2 := F0 m 6 ls [.int xv4]) rfl ?_
  refine lv_if_eq (tgt := 30) hx hb dX12_fit_6 (by decide) (fun cv6 => ?_) (fun cv6 => ?_)
  · have tcv6 := eqT cv6
    refine lv_iconst (v := -1) hx hb dX12_fit_30 (by decide) ?_
    exact r_retI C hr hlk hM (⟨rfl, rfl, rfl, trivial⟩) dX12_fit_31
  · have tcv6 := eqF cv6
    refine lv_iload_n hx hb dX12_fit_9 rfl (lv_at hl 3 rfl) ?_
    refine lv_iconst (v := 1) hx hb dX12_fit_10 (by decide) ?_
    refine lv_icmp_lt (tgt := 30) hx hb dX12_fit_11 (by decide) (fun cv7 => ?_) (fun cv7 => ?_)
    · have tcv7 := ltT cv7
      refine lv_iconst (v := -1) hx hb dX12_fit_30 (by decide) ?_
      exact r_retI C hr hlk hM (⟨rfl, rfl, rfl, trivial⟩) dX12_fit_31
    · have tcv7 := ltF cv7
      refine lv_iload_n hx hb dX12_fit_14 rfl (lv_at hl 3 rfl) ?_
      refine lv_sipush (v := 255) hx hb dX12_fit_15 (by decide) ?_
      refine lv_icmp_gt (tgt := 30) hx hb dX12_fit_18 (by decide) (fun cv8 => ?_) (fun cv8 => ?_)
      · have tcv8 := ltT cv8
        refine lv_iconst (v := -1) hx hb dX12_fit_30 (by decide) ?_
        exact r_retI C hr hlk hM (⟨rfl, rfl, rfl, trivial⟩) dX12_fit_31
      · have tcv8 := ltF cv8
        refine lv_aload_n hx hb dX12_fit_21 rfl (lv_at hl 0 rfl) ?_
        refine lv_iload hx hb dX12_fit_22 (lv_at hl 4 rfl) ?_
        refine r_V (As := [.int i3]) (rest := []) (ci := 12) C hM (c_X12_hasPage l D H0 h0 R kc ns i3 hI0) i_X12_hasPage m_X12_235 rK0 rfl rfl rfl hl.1 rfl (Nat.le_of_ble_eq_true rfl) ⟨by decide, by decide⟩ ⟨by decide, by decide⟩ dX12_fit_24 (fun xv12 Sv9 kv10 nv11 H locs pv13 hM => ?_)
        obtain ⟨rfl, rfl, rfl, hxv12⟩ := pv13
        refine W.eq (g2 := F0 m 27 ls [.int xv12]) rfl ?_
        refine lv_if_ne (tgt := 32) hx hb dX12_fit_27 (by decide) (fun cv14 => ?_) (fun cv14 => ?_)
        · have tcv14 := eqF cv14
          refine lv_iload hx hb dX12_fit_32 (lv_at hl 5 rfl) ?_
          refine lv_istore (lv' := [(6, .int i4), (0, .ref h0), (1, .int i0), (2, .int i1), (3, .int i2), (4, .int i3), (5, .int i4)]) hx hb dX12_fit_34 hl (by decide) rfl (fun ls hl => ?_)
          refine lv_iconst (v := 0) hx hb dX12_fit_36 (by decide) ?_
          refine lv_istore (lv' := [(7, .int 0), (6, .int i4), (0, .ref h0), (1, .int i0), (2, .int i1), (3, .int i2), (4, .int i3), (5, .int i4)]) hx hb dX12_fit_37 hl (by decide) rfl (fun ls hl => ?_)
          have loop39 : ∀ (fu : Nat) (bz : Int32) (lz : Int32) (H : Heap) (locs : List Loc) (ls : Array Slot), (0 ≤ bz.toInt) → (60 - bz.toInt).toNat < fu → lv_has ls 8 [(0, .ref h0), (1, .int i0), (2, .int i1), (3, .int i2), (4, .int i3), (5, .int i4), (6, .int lz), (7, .int bz)] → mH D H0 (rM h0 R) kc ns H locs → W p l e ({ frames := 4, cells := 0, slots := 0, locals := 97 } : Room) s m args below meth c H locs 0 0 (MQ below (mQ D H0 gI (fun r S1 k1 n1 => rM h0 R = S1 ∧ kc = k1 ∧ ns = n1 ∧ True)) args s 0 0 (mF H0)) (F0 m 39 ls []) := by
            intro fu
            induction fu with
            | zero => intro bz lz H locs ls h39_0 hfu; exact absurd hfu (by omega)
            | succ fu ih39 =>
              intro bz lz H locs ls h39_0 hfu hl hM
              refine lv_iload hx hb dX12_fit_39 (lv_at hl 7 rfl) ?_
              refine lv_aload_n hx hb dX12_fit_41 rfl (lv_at hl 0 rfl) ?_
              refine rr_getA (k := 10) (j := 2) C hM f_X12_20 rfl rfl dX12_fit_42 ?_
              refine lv_iload hx hb dX12_fit_45 (lv_at hl 4 rfl) ?_
              refine rr_ldI (j := 2) (k := 10) (n := 31) (v := rA R 10 i3.toNatClampNeg) C hM rfl rfl rfl (inI (by omega) (by show _ < (31 : Int); omega)) (congrFun (hF.gA 10 (by decide)) i3.toNatClampNeg) dX12_fit_47 ?_
              refine lv_topi (fun xv15 exv15 => ?_)
              have mxv15 : xv15.toInt = (rA R 10 i3.toNatClampNeg).toInt := by rw [exv15]
              have fxv15 := RI.many hI0 i3.toNatClampNeg; rw [← exv15] at fxv15
              refine lv_icmp_ge (tgt := 87) hx hb dX12_fit_48 (by decide) (fun cv16 => ?_) (fun cv16 => ?_)
              · have tcv16 := leT cv16
                refine lv_iconst (v := -1) hx hb dX12_fit_87 (by decide) ?_
                exact r_retI C hr hlk hM (⟨rfl, rfl, rfl, trivial⟩) dX12_fit_88
              · have tcv16 := leF cv16
                refine lv_aload_n hx hb dX12_fit_51 rfl (lv_at hl 0 rfl) ?_
                refine lv_iload_n hx hb dX12_fit_52 rfl (lv_at hl 1 rfl) ?_
                refine lv_iload_n hx hb dX12_fit_53 rfl (lv_at hl 2 rfl) ?_
                refine lv_iload hx hb dX12_fit_54 (lv_at hl 4 rfl) ?_
                refine lv_iload hx hb dX12_fit_56 (lv_at hl 7 rfl) ?_
                refine r_V (As := [.int i0, .int i1, .int i3, .int bz]) (rest := []) (ci := 12) C hM (c_X12_alike l D H0 h0 R kc ns i0 i1 i3 bz hI0 (by omega) (by omega) (by omega) (by omega) (by omega) (by omega) (by omega) (by omega)) i_X12_alike m_X12_272 rK0 rfl rfl rfl hl.1 rfl (Nat.le_of_ble_eq_true rfl) ⟨by decide, by decide⟩ ⟨by decide, by decide⟩ dX12_fit_58 (fun xv20 Sv17 kv18 nv19 H locs pv21 hM => ?_)
                obtain ⟨rfl, rfl, rfl, hxv20⟩ := pv21
                refine W.eq (g2 := F0 m 61 ls [.int xv20]) rfl ?_
                refine lv_iload_n hx hb dX12_fit_61 rfl (lv_at hl 3 rfl) ?_
                refine lv_iand hx hb dX12_fit_62 ?_
                refine lv_topi (fun xv22 exv22 => ?_)
                refine lv_iload_n hx hb dX12_fit_63 rfl (lv_at hl 3 rfl) ?_
                refine lv_icmp_eq (tgt := 70) hx hb dX12_fit_64 (by decide) (fun cv23 => ?_) (fun cv23 => ?_)
                · have tcv23 := eqT cv23
                  refine lv_iload hx hb dX12_fit_70 (lv_at hl 6 rfl) ?_
                  refine lv_if_ne (tgt := 78) hx hb dX12_fit_72 (by decide) (fun cv24 => ?_) (fun cv24 => ?_)
                  · have tcv24 := eqF cv24
                    obtain ⟨xv25, exv25⟩ : ∃ y : Int32, y = lz + (-1) := ⟨_, rfl⟩
                    try (have txv25 := addI (a := lz) (b := (-1)) (by omega) (by omega); rw [← exv25] at txv25)
                    refine lv_iinc (v := xv25) (lv' := [(6, .int xv25), (0, .ref h0), (1, .int i0), (2, .int i1), (3, .int i2), (4, .int i3), (5, .int i4), (7, .int bz)]) hx hb dX12_fit_78 hl (k := 6) rfl (by rw [exv25]; rfl) (by decide) rfl (fun ls hl => ?_)
                    obtain ⟨xv26, exv26⟩ : ∃ y : Int32, y = bz + 1 := ⟨_, rfl⟩
                    try (have txv26 := addI (a := bz) (b := 1) (by omega) (by omega); rw [← exv26] at txv26)
                    refine lv_iinc (v := xv26) (lv' := [(7, .int xv26), (6, .int xv25), (0, .ref h0), (1, .int i0), (2, .int i1), (3, .int i2), (4, .int i3), (5, .int i4)]) hx hb dX12_fit_81 hl (k := 7) rfl (by rw [exv26]; rfl) (by decide) rfl (fun ls hl => ?_)
                    refine lv_goto (tgt := 39) hx hb dX12_fit_84 (by decide) ?_
                    exact ih39 xv26 xv25 _ _ _ (by omega) (by omega) (lv_sub hl [2, 3, 4, 5, 6, 7, 1, 0] rfl) hM
                  · have tcv24 := eqT cv24
                    refine lv_iload hx hb dX12_fit_75 (lv_at hl 7 rfl) ?_
                    exact r_retI C hr hlk hM (⟨rfl, rfl, rfl, trivial⟩) dX12_fit_77
                · have tcv23 := eqF cv23
                  refine lv_goto (tgt := 81) hx hb dX12_fit_67 (by decide) ?_
                  obtain ⟨xv27, exv27⟩ : ∃ y : Int32, y = bz + 1 := ⟨_, rfl⟩
                  try (have txv27 := addI (a := bz) (b := 1) (by omega) (by omega); rw [← exv27] at txv27)
                  refine lv_iinc (v := xv27) (lv' := [(7, .int xv27), (0, .ref h0), (1, .int i0), (2, .int i1), (3, .int i2), (4, .int i3), (5, .int i4), (6, .int lz)]) hx hb dX12_fit_81 hl (k := 7) rfl (by rw [exv27]; rfl) (by decide) rfl (fun ls hl => ?_)
                  refine lv_goto (tgt := 39) hx hb dX12_fit_84 (by decide) ?_
                  exact ih39 xv27 lz _ _ _ (by omega) (by omega) (lv_sub hl [1, 2, 3, 4, 5, 6, 7, 0] rfl) hM
          exact loop39 (((60 - (0 : Int32).toInt).toNat) + 1) 0 i4 _ _ _ (by omega) (by omega) (lv_sub hl [2, 3, 4, 5, 6, 7, 1, 0] rfl) hM
        · have tcv14 := eqT cv14
          refine lv_iconst (v := -1) hx hb dX12_fit_30 (by decide) ?_
          exact r_retI C hr hlk hM (⟨rfl, rfl, rfl, trivial⟩) dX12_fit_31
set_option maxHeartbeats 4000000 in
set_option maxRecDepth 100000 in
theorem c_X12_sample (l : Launch) (D : gD) (H0 : gB) (h0 : Nat) (R : RS) (kc ns : Nat) (i0 i1 : Int32) (hI : RI R)  : Met l yX12_sample (wsU yX12_sample cX12_sample 3 (some .int)) ({ frames := 2, cells := 0, slots := 0, locals := 47 } : Room) (mP D H0 (rM h0 R) kc ns [.ref h0, .int i0, .int i1]) (mQ D H0 gI (fun r S1 k1 n1 => kc = k1 ∧ ns = n1 ∧ ∃ R1, S1 = rM h0 R1 ∧ fr [10, 11, 12, 13, 14, 15, 16, 17, 18, 19, 20, 35, 36] R R1 ∧ RI R1)) 0 0 (mF H0) := by
  refine r_met (own := RX12) (by decide +kernel) rfl (Nat.le_of_ble_eq_true rfl) ?_
  intro p e s m args below meth c C hr hlk hnm H ls hl hM
  obtain ⟨hx, hb, hml, hown, hts, -, -⟩ := id C
  have hl : lv_has ls 3 [(0, .ref h0), (1, .int i0), (2, .int i1)] := hl
  have hF : fr [10, 11, 12, 13, 14, 15, 16, 17, 18, 19, 20, 35, 36] R R := fr.rf
  have hI0 := hI
  have t_m1 : (-1 : Int32).toInt = -1 := by decide
  have t_0 : (0 : Int32).toInt = 0 := by decide
  have t_1 : (1 : Int32).toInt = 1 := by decide
  have t_4 : (4 : Int32).toInt = 4 := by decide
  have t_6 : (6 : Int32).toInt = 6 := by decide
  have fm0 := RI.many hI i0.toNatClampNeg
  have fs := RI.samples hI
  refine lv_aload_n hx hb dX12_sample_0 rfl (lv_at hl 0 rfl) ?_
  refine lv_iload_n hx hb dX12_sample_1 rfl (lv_at hl 1 rfl) ?_
  refine lv_iload_n hx hb dX12_sample_2 rfl (lv_at hl 2 rfl) ?_
  refine r_V (As := [.int i0, .int i1]) (rest := []) (ci := 12) C hM (c_X12_isPart l D H0 h0 R kc ns i0 i1 hI) i_X12_isPart m_X12_185 rK0 rfl rfl rfl hl.1 rfl (Nat.le_of_ble_eq_true rfl) ⟨by decide, by decide⟩ ⟨by decide, by decide⟩ dX12_sample_3 (fun xv4 Sv1 kv2 nv3 H locs pv5 hM => ?_)
  obtain ⟨rfl, rfl, rfl, hxv4⟩ := pv5
  refine W.eq (g2 := F0 m 6 ls [.int xv4]) rfl ?_
  refine lv_if_eq (tgt := 18) hx hb dX12_sample_6 (by decide) (fun cv6 => ?_) (fun cv6 => ?_)
  · have tcv6 := eqT cv6
    refine lv_iconst (v := -1) hx hb dX12_sample_18 (by decide) ?_
    exact r_retI C hr hlk hM (⟨rfl, rfl, _, rfl, hF, hI⟩) dX12_sample_19
  · have tcv6 := eqF cv6
    refine lv_aload_n hx hb dX12_sample_9 rfl (lv_at hl 0 rfl) ?_
    refine rr_getI (k := 36) (v := rI R 36) C hM f_X12_275 rfl rfl dX12_sample_10 ?_
    refine lv_topi (fun xv7 exv7 => ?_)
    have mxv7 : xv7.toInt = (rI R 36).toInt := by rw [exv7]
    have fxv7 : 0 ≤ xv7.toInt ∧ xv7.toInt ≤ 6 := by rw [exv7]; exact RI.samples hI
    refine lv_bipush (v := 6) hx hb dX12_sample_13 (by decide) ?_
    refine lv_icmp_ne (tgt := 20) hx hb dX12_sample_15 (by decide) (fun cv8 => ?_) (fun cv8 => ?_)
    · have tcv8 := eqF cv8
      refine lv_aload_n hx hb dX12_sample_20 rfl (lv_at hl 0 rfl) ?_
      refine lv_iload_n hx hb dX12_sample_21 rfl (lv_at hl 1 rfl) ?_
      refine lv_iconst (v := 4) hx hb dX12_sample_22 (by decide) ?_
      refine lv_aload_n hx hb dX12_sample_23 rfl (lv_at hl 0 rfl) ?_
      refine rr_getI (k := 36) (v := xv7) C hM f_X12_275 rfl (exv7.symm) dX12_sample_24 ?_
      refine lv_iadd hx hb dX12_sample_27 ?_
      refine lv_topi (fun xv9 exv9 => ?_)
      try (have txv9 := addI (a := 4) (b := xv7) (by omega) (by omega); rw [← exv9] at txv9)
      refine r_V (As := [.int i0, .int xv9]) (rest := []) (ci := 12) C hM (c_X12_copyPage l D H0 h0 R kc ns i0 xv9 hI (hI0.pg (g := i0.toNatClampNeg) (by have h7 := clI (x := i0) (by omega); omega)) (by omega) (by omega) (by omega) (by omega) (by omega) (by omega)) i_X12_copyPage m_X12_180 rK0 rfl rfl rfl hl.1 rfl (Nat.le_of_ble_eq_true rfl) ⟨by decide, by decide⟩ ⟨by decide, by decide⟩ dX12_sample_28 (fun uv13 Sv10 kv11 nv12 H locs pv14 hM => ?_)
      obtain ⟨rfl, rfl, Rv15, rfl, hf9, ⟨hI, hcn, hct⟩⟩ := pv14
      have hF : fr [10, 11, 12, 13, 14, 15, 16, 17, 18, 19, 20, 35, 36] R Rv15 := hF.trans hf9 (by decide)
      have zv16 : (rI Rv15 36).toInt = (rI R 36).toInt := by rw [hf9.gI 36 (by decide)]
      have zv17 : (rI Rv15 51).toInt = (rI R 51).toInt := by rw [hf9.gI 51 (by decide)]
      have vv18 : rI Rv15 36 = xv7 := (hf9.gI 36 (by decide)).trans (exv7.symm)
      have hI1 := hI
      refine W.eq (g2 := F0 m 31 ls []) rfl ?_
      refine lv_aload_n hx hb dX12_sample_31 rfl (lv_at hl 0 rfl) ?_
      refine rr_getA (k := 35) (j := 16) C hM f_X12_68 rfl rfl dX12_sample_32 ?_
      refine lv_aload_n hx hb dX12_sample_35 rfl (lv_at hl 0 rfl) ?_
      refine rr_getI (k := 36) (v := xv7) C hM f_X12_275 rfl (vv18) dX12_sample_36 ?_
      refine lv_iload_n hx hb dX12_sample_39 rfl (lv_at hl 2 rfl) ?_
      refine rr_stI (j := 16) (k := 35) (n := 6) (i := xv7) (x := i1) C hM rfl rfl rfl (inI (by omega) (by show _ < (6 : Int); omega)) dX12_sample_40 (fun H locs hM => ?_)
      have hM : mH D H0 (rM h0 (uA Rv15 35 xv7.toNatClampNeg i1)) kc ns H locs := hM
      have hF : fr [10, 11, 12, 13, 14, 15, 16, 17, 18, 19, 20, 35, 36] R (uA Rv15 35 xv7.toNatClampNeg i1) := hF.A (by decide)
      have hI : RI (uA Rv15 35 xv7.toNatClampNeg i1) := hI.st35 (by have h7 := clI (x := xv7) (by omega); omega)
      refine lv_aload_n hx hb dX12_sample_41 rfl (lv_at hl 0 rfl) ?_
      refine lv_dup hx hb dX12_sample_42 rfl ?_
      refine rr_getI (k := 36) (v := xv7) C hM f_X12_275 rfl (vv18) dX12_sample_43 ?_
      refine lv_iconst (v := 1) hx hb dX12_sample_46 (by decide) ?_
      refine lv_iadd hx hb dX12_sample_47 ?_
      refine lv_topi (fun xv19 exv19 => ?_)
      try (have txv19 := addI (a := xv7) (b := 1) (by omega) (by omega); rw [← exv19] at txv19)
      refine rr_putI (k := 36) (v := xv19) C hM f_X12_275 rfl (fun r h => by cases h; rfl) rfl dX12_sample_48 (fun H locs hM => ?_)
      have hM : mH D H0 (rM h0 (uI (uA Rv15 35 xv7.toNatClampNeg i1) 36 xv19)) kc ns H locs := hM
      have hF : fr [10, 11, 12, 13, 14, 15, 16, 17, 18, 19, 20, 35, 36] R (uI (uA Rv15 35 xv7.toNatClampNeg i1) 36 xv19) := hF.I (by decide)
      have hI : RI (uI (uA Rv15 35 xv7.toNatClampNeg i1) 36 xv19) := RI.sample hI1 (by have h7 := clI (x := xv7) (by omega); omega) (by omega) (by omega) (by have h7 := clI (x := xv7) (by omega); have h8 := clI (x := xv9) (by omega); rw [show 4 + xv7.toNatClampNeg = xv9.toNatClampNeg by omega, hct]; omega)
      refine lv_aload_n hx hb dX12_sample_51 rfl (lv_at hl 0 rfl) ?_
      refine rr_getI (k := 36) (v := xv19) C hM f_X12_275 rfl (rfl) dX12_sample_52 ?_
      have zv20 : (rI (uI (uA Rv15 35 xv7.toNatClampNeg i1) 36 xv19) 36).toInt = xv19.toInt := rfl
      have zv21 : (rI (uI (uA Rv15 35 xv7.toNatClampNeg i1) 36 xv19) 51).toInt = (rI R 51).toInt := by rw [hF.gI 51 (by decide)]
      exact r_retI C hr hlk hM (⟨rfl, rfl, _, rfl, hF, hI⟩) dX12_sample_55
    · have tcv8 := eqT cv8
      refine lv_iconst (v := -1) hx hb dX12_sample_18 (by decide) ?_
      exact r_retI C hr hlk hM (⟨rfl, rfl, _, rfl, hF, hI⟩) dX12_sample_19
set_option maxHeartbeats 4000000 in
set_option maxRecDepth 100000 in
theorem c_X12_forget (l : Launch) (D : gD) (H0 : gB) (h0 : Nat) (R : RS) (kc ns : Nat) (hI : RI R)  : Met l yX12_forget (wsU yX12_forget cX12_forget 2 (some .int)) ({ frames := 0, cells := 0, slots := 0, locals := 0 } : Room) (mP D H0 (rM h0 R) kc ns [.ref h0]) (mQ D H0 gI (fun r S1 k1 n1 => kc = k1 ∧ ns = n1 ∧ ∃ R1, S1 = rM h0 R1 ∧ fr [36] R R1 ∧ RI R1)) 0 0 (mF H0) := by
  refine r_met (own := RX12) (by decide +kernel) rfl (Nat.le_of_ble_eq_true rfl) ?_
  intro p e s m args below meth c C hr hlk hnm H ls hl hM
  obtain ⟨hx, hb, hml, hown, hts, -, -⟩ := id C
  have hl : lv_has ls 2 [(0, .ref h0)] := hl
  have hF : fr [36] R R := fr.rf
  have hI0 := hI
  have t_0 : (0 : Int32).toInt = 0 := by decide
  refine lv_aload_n hx hb dX12_forget_0 rfl (lv_at hl 0 rfl) ?_
  refine rr_getI (k := 36) (v := rI R 36) C hM f_X12_275 rfl rfl dX12_forget_1 ?_
  refine lv_topi (fun xv1 exv1 => ?_)
  have mxv1 : xv1.toInt = (rI R 36).toInt := by rw [exv1]
  refine lv_istore_n (lv' := [(1, .int xv1), (0, .ref h0)]) hx hb dX12_forget_4 rfl hl (by decide) rfl (fun ls hl => ?_)
  refine lv_aload_n hx hb dX12_forget_5 rfl (lv_at hl 1 rfl) ?_
  refine lv_iconst (v := 0) hx hb dX12_forget_6 (by decide) ?_
  refine rr_putI (k := 36) (v := (0 : Int32)) C hM f_X12_275 rfl (fun r h => by cases h; rfl) rfl dX12_forget_7 (fun H locs hM => ?_)
  have hM : mH D H0 (rM h0 (uI R 36 (0 : Int32))) kc ns H locs := hM
  have hF : fr [36] R (uI R 36 (0 : Int32)) := hF.I (by decide)
  have hI : RI (uI R 36 (0 : Int32)) := hI.zero36
  refine lv_iload_n hx hb dX12_forget_10 rfl (lv_at hl 0 rfl) ?_
  exact r_retI C hr hlk hM (⟨rfl, rfl, _, rfl, hF, hI⟩) dX12_forget_11
set_option maxHeartbeats 4000000 in
set_option maxRecDepth 100000 in
theorem c_X12_clear (l : Launch) (D : gD) (H0 : gB) (h0 : Nat) (R : RS) (kc ns : Nat) (hI : RI R)  : Met l yX12_clear (wsU yX12_clear cX12_clear 2 (some .int)) ({ frames := 0, cells := 0, slots := 0, locals := 0 } : Room) (mP D H0 (rM h0 R) kc ns [.ref h0]) (mQ D H0 gI (fun r S1 k1 n1 => kc = k1 ∧ ns = n1 ∧ ∃ R1, S1 = rM h0 R1 ∧ fr [51] R R1 ∧ RI R1)) 0 0 (mF H0) := by
  refine r_met (own := RX12) (by decide +kernel) rfl (Nat.le_of_ble_eq_true rfl) ?_
  intro p e s m args below meth c C hr hlk hnm H ls hl hM
  obtain ⟨hx, hb, hml, hown, hts, -, -⟩ := id C
  have hl : lv_has ls 2 [(0, .ref h0)] := hl
  have hF : fr [51] R R := fr.rf
  have hI0 := hI
  have t_0 : (0 : Int32).toInt = 0 := by decide
  refine lv_aload_n hx hb dX12_clear_0 rfl (lv_at hl 0 rfl) ?_
  refine rr_getI (k := 51) (v := rI R 51) C hM f_X12_313 rfl rfl dX12_clear_1 ?_
  refine lv_topi (fun xv1 exv1 => ?_)
  have mxv1 : xv1.toInt = (rI R 51).toInt := by rw [exv1]
  refine lv_istore_n (lv' := [(1, .int xv1), (0, .ref h0)]) hx hb dX12_clear_4 rfl hl (by decide) rfl (fun ls hl => ?_)
  refine lv_aload_n hx hb dX12_clear_5 rfl (lv_at hl 1 rfl) ?_
  refine lv_iconst (v := 0) hx hb dX12_clear_6 (by decide) ?_
  refine rr_putI (k := 51) (v := (0 : Int32)) C hM f_X12_313 rfl (fun r h => by cases h; rfl) rfl dX12_clear_7 (fun H locs hM => ?_)
  have hM : mH D H0 (rM h0 (uI R 51 (0 : Int32))) kc ns H locs := hM
  have hF : fr [51] R (uI R 51 (0 : Int32)) := hF.I (by decide)
  have hI : RI (uI R 51 (0 : Int32)) := hI.zero51
  refine lv_iload_n hx hb dX12_clear_10 rfl (lv_at hl 0 rfl) ?_
  exact r_retI C hr hlk hM (⟨rfl, rfl, _, rfl, hF, hI⟩) dX12_clear_11
set_option maxHeartbeats 4000000 in
set_option maxRecDepth 100000 in
theorem c_X12_stays (l : Launch) (D : gD) (H0 : gB) (h0 : Nat) (R : RS) (kc ns : Nat) (hI : RI R)  : Met l yX12_stays (wsU yX12_stays cX12_stays 3 (some .int)) ({ frames := 4, cells := 0, slots := 0, locals := 97 } : Room) (mP D H0 (rM h0 R) kc ns [.ref h0]) (mQ D H0 gI (fun r S1 k1 n1 => rM h0 R = S1 ∧ kc = k1 ∧ ns = n1 ∧ ((rI R 36).toInt ≠ 0 ∨ r.toInt = 0))) 0 0 (mF H0) := by
  refine r_met (own := RX12) (by decide +kernel) rfl (Nat.le_of_ble_eq_true rfl) ?_
  intro p e s m args below meth c C hr hlk hnm H ls hl hM
  obtain ⟨hx, hb, hml, hown, hts, -, -⟩ := id C
  have hl : lv_has ls 3 [(0, .ref h0)] := hl
  have hF : fr [] R R := fr.rf
  have hI0 := hI
  have t_0 : (0 : Int32).toInt = 0 := by decide
  have t_1 : (1 : Int32).toInt = 1 := by decide
  have t_4 : (4 : Int32).toInt = 4 := by decide
  have t_255 : (255 : Int32).toInt = 255 := by decide
  have fs := RI.samples hI
  refine lv_aload_n hx hb dX12_stays_0 rfl (lv_at hl 0 rfl) ?_
  refine rr_getI (k := 36) (v := rI R 36) C hM f_X12_275 rfl (hF.gI 36 (by decide)) dX12_stays_1 ?_
  refine lv_topi (fun xv1 exv1 => ?_)
  have mxv1 : xv1.toInt = (rI R 36).toInt := by rw [exv1]
  have fxv1 := RI.samples hI0; rw [← exv1] at fxv1
  refine lv_if_ne (tgt := 11) hx hb dX12_stays_4 (by decide) (fun cv2 => ?_) (fun cv2 => ?_)
  · have tcv2 := eqF cv2
    refine lv_sipush (v := 255) hx hb dX12_stays_11 (by decide) ?_
    refine lv_istore_n (lv' := [(1, .int 255), (0, .ref h0)]) hx hb dX12_stays_14 rfl hl (by decide) rfl (fun ls hl => ?_)
    refine lv_iconst (v := 1) hx hb dX12_stays_15 (by decide) ?_
    refine lv_istore_n (lv' := [(2, .int 1), (1, .int 255), (0, .ref h0)]) hx hb dX12_stays_16 rfl hl (by decide) rfl (fun ls hl => ?_)
    have loop17 : ∀ (fu : Nat) (kz : Int32) (bz : Int32) (H : Heap) (locs : List Loc) (ls : Array Slot), (1 ≤ kz.toInt) → ((rI R 36).toInt ≠ 0 ∨ bz.toInt = 0) → (6 - kz.toInt).toNat < fu → lv_has ls 3 [(0, .ref h0), (1, .int bz), (2, .int kz)] → mH D H0 (rM h0 R) kc ns H locs → W p l e ({ frames := 4, cells := 0, slots := 0, locals := 97 } : Room) s m args below meth c H locs 0 0 (MQ below (mQ D H0 gI (fun r S1 k1 n1 => rM h0 R = S1 ∧ kc = k1 ∧ ns = n1 ∧ ((rI R 36).toInt ≠ 0 ∨ r.toInt = 0))) args s 0 0 (mF H0)) (F0 m 17 ls []) := by
      intro fu
      induction fu with
      | zero => intro kz bz H locs ls h17_0 h17_1 hfu; exact absurd hfu (by omega)
      | succ fu ih17 =>
        intro kz bz H locs ls h17_0 h17_1 hfu hl hM
        refine lv_iload_n hx hb dX12_stays_17 rfl (lv_at hl 2 rfl) ?_
        refine lv_aload_n hx hb dX12_stays_18 rfl (lv_at hl 0 rfl) ?_
        refine rr_getI (k := 36) (v := xv1) C hM f_X12_275 rfl ((hF.gI 36 (by decide)).trans exv1.symm) dX12_stays_19 ?_
        refine lv_icmp_ge (tgt := 54) hx hb dX12_stays_22 (by decide) (fun cv3 => ?_) (fun cv3 => ?_)
        · have tcv3 := leT cv3
          refine lv_iload_n hx hb dX12_stays_54 rfl (lv_at hl 1 rfl) ?_
          exact r_retI C hr hlk hM (⟨rfl, rfl, rfl, by omega⟩) dX12_stays_55
        · have tcv3 := leF cv3
          refine lv_iload_n hx hb dX12_stays_25 rfl (lv_at hl 1 rfl) ?_
          refine lv_aload_n hx hb dX12_stays_26 rfl (lv_at hl 0 rfl) ?_
          refine lv_iconst (v := 4) hx hb dX12_stays_27 (by decide) ?_
          refine lv_aload_n hx hb dX12_stays_28 rfl (lv_at hl 0 rfl) ?_
          refine rr_getA (k := 35) (j := 16) C hM f_X12_68 rfl rfl dX12_stays_29 ?_
          refine lv_iconst (v := 0) hx hb dX12_stays_32 (by decide) ?_
          refine rr_ldI (j := 16) (k := 35) (n := 6) (v := rA R 35 0) C hM rfl rfl rfl (inI (by omega) (by show _ < (6 : Int); omega)) (congrFun (hF.gA 35 (by decide)) 0) dX12_stays_33 ?_
          refine lv_topi (fun xv4 exv4 => ?_)
          have fpxv4 : 0 ≤ xv4.toInt ∧ xv4.toInt < (rA R 10 (4 : Int32).toNatClampNeg).toInt := by rw [exv4]; exact RI.sp hI0 (k := 0) (g := 4) (by decide) (by omega) (by decide)
          refine lv_iconst (v := 4) hx hb dX12_stays_34 (by decide) ?_
          refine lv_iload_n hx hb dX12_stays_35 rfl (lv_at hl 2 rfl) ?_
          refine lv_iadd hx hb dX12_stays_36 ?_
          refine lv_topi (fun xv5 exv5 => ?_)
          try (have txv5 := addI (a := 4) (b := kz) (by omega) (by omega); rw [← exv5] at txv5)
          refine lv_aload_n hx hb dX12_stays_37 rfl (lv_at hl 0 rfl) ?_
          refine rr_getA (k := 35) (j := 16) C hM f_X12_68 rfl rfl dX12_stays_38 ?_
          refine lv_iload_n hx hb dX12_stays_41 rfl (lv_at hl 2 rfl) ?_
          refine rr_ldI (j := 16) (k := 35) (n := 6) (v := rA R 35 kz.toNatClampNeg) C hM rfl rfl rfl (inI (by omega) (by show _ < (6 : Int); omega)) (congrFun (hF.gA 35 (by decide)) kz.toNatClampNeg) dX12_stays_42 ?_
          refine lv_topi (fun xv6 exv6 => ?_)
          have fpxv6 : 0 ≤ xv6.toInt ∧ xv6.toInt < (rA R 10 xv5.toNatClampNeg).toInt := by rw [exv6]; exact RI.sp hI0 (by omega) (by omega) (by omega)
          refine r_V (As := [.int 4, .int xv4, .int xv5, .int xv6]) (rest := [.int bz]) (ci := 12) C hM (c_X12_alike l D H0 h0 R kc ns 4 xv4 xv5 xv6 hI0 (by omega) (by omega) (by omega) (by omega) (by omega) (by omega) (by omega) (by omega)) i_X12_alike m_X12_272 rK0 rfl rfl rfl hl.1 rfl (Nat.le_of_ble_eq_true rfl) ⟨by decide, by decide⟩ ⟨by decide, by decide⟩ dX12_stays_43 (fun xv10 Sv7 kv8 nv9 H locs pv11 hM => ?_)
          obtain ⟨rfl, rfl, rfl, hxv10⟩ := pv11
          refine W.eq (g2 := F0 m 46 ls [.int xv10, .int bz]) rfl ?_
          refine lv_iand hx hb dX12_stays_46 ?_
          refine lv_topi (fun xv12 exv12 => ?_)
          refine lv_istore_n (lv' := [(1, .int xv12), (0, .ref h0), (2, .int kz)]) hx hb dX12_stays_47 rfl hl (by decide) rfl (fun ls hl => ?_)
          obtain ⟨xv13, exv13⟩ : ∃ y : Int32, y = kz + 1 := ⟨_, rfl⟩
          try (have txv13 := addI (a := kz) (b := 1) (by omega) (by omega); rw [← exv13] at txv13)
          refine lv_iinc (v := xv13) (lv' := [(2, .int xv13), (1, .int xv12), (0, .ref h0)]) hx hb dX12_stays_48 hl (k := 2) rfl (by rw [exv13]; rfl) (by decide) rfl (fun ls hl => ?_)
          refine lv_goto (tgt := 17) hx hb dX12_stays_51 (by decide) ?_
          exact ih17 xv13 xv12 _ _ _ (by omega) (by omega) (by omega) (lv_sub hl [2, 1, 0] rfl) hM
    exact loop17 (((6 - (1 : Int32).toInt).toNat) + 1) 1 255 _ _ _ (by omega) (by omega) (by omega) (lv_sub hl [2, 1, 0] rfl) hM
  · have tcv2 := eqT cv2
    refine lv_iconst (v := 0) hx hb dX12_stays_7 (by decide) ?_
    refine lv_goto (tgt := 14) hx hb dX12_stays_8 (by decide) ?_
    refine lv_istore_n (lv' := [(1, .int 0), (0, .ref h0)]) hx hb dX12_stays_14 rfl hl (by decide) rfl (fun ls hl => ?_)
    refine lv_iconst (v := 1) hx hb dX12_stays_15 (by decide) ?_
    refine lv_istore_n (lv' := [(2, .int 1), (1, .int 0), (0, .ref h0)]) hx hb dX12_stays_16 rfl hl (by decide) rfl (fun ls hl => ?_)
    have loop17 : ∀ (fu : Nat) (kz : Int32) (bz : Int32) (H : Heap) (locs : List Loc) (ls : Array Slot), (1 ≤ kz.toInt) → ((rI R 36).toInt ≠ 0 ∨ bz.toInt = 0) → (6 - kz.toInt).toNat < fu → lv_has ls 3 [(0, .ref h0), (1, .int bz), (2, .int kz)] → mH D H0 (rM h0 R) kc ns H locs → W p l e ({ frames := 4, cells := 0, slots := 0, locals := 97 } : Room) s m args below meth c H locs 0 0 (MQ below (mQ D H0 gI (fun r S1 k1 n1 => rM h0 R = S1 ∧ kc = k1 ∧ ns = n1 ∧ ((rI R 36).toInt ≠ 0 ∨ r.toInt = 0))) args s 0 0 (mF H0)) (F0 m 17 ls []) := by
      intro fu
      induction fu with
      | zero => intro kz bz H locs ls h17_0 h17_1 hfu; exact absurd hfu (by omega)
      | succ fu ih17 =>
        intro kz bz H locs ls h17_0 h17_1 hfu hl hM
        refine lv_iload_n hx hb dX12_stays_17 rfl (lv_at hl 2 rfl) ?_
        refine lv_aload_n hx hb dX12_stays_18 rfl (lv_at hl 0 rfl) ?_
        refine rr_getI (k := 36) (v := xv1) C hM f_X12_275 rfl ((hF.gI 36 (by decide)).trans exv1.symm) dX12_stays_19 ?_
        refine lv_icmp_ge (tgt := 54) hx hb dX12_stays_22 (by decide) (fun cv14 => ?_) (fun cv14 => ?_)
        · have tcv14 := leT cv14
          refine lv_iload_n hx hb dX12_stays_54 rfl (lv_at hl 1 rfl) ?_
          exact r_retI C hr hlk hM (⟨rfl, rfl, rfl, by omega⟩) dX12_stays_55
        · have tcv14 := leF cv14
          refine lv_iload_n hx hb dX12_stays_25 rfl (lv_at hl 1 rfl) ?_
          refine lv_aload_n hx hb dX12_stays_26 rfl (lv_at hl 0 rfl) ?_
          refine lv_iconst (v := 4) hx hb dX12_stays_27 (by decide) ?_
          refine lv_aload_n hx hb dX12_stays_28 rfl (lv_at hl 0 rfl) ?_
          refine rr_getA (k := 35) (j := 16) C hM f_X12_68 rfl rfl dX12_stays_29 ?_
          refine lv_iconst (v := 0) hx hb dX12_stays_32 (by decide) ?_
          refine rr_ldI (j := 16) (k := 35) (n := 6) (v := rA R 35 0) C hM rfl rfl rfl (inI (by omega) (by show _ < (6 : Int); omega)) (congrFun (hF.gA 35 (by decide)) 0) dX12_stays_33 ?_
          refine lv_topi (fun xv15 exv15 => ?_)
          have fpxv15 : 0 ≤ xv15.toInt ∧ xv15.toInt < (rA R 10 (4 : Int32).toNatClampNeg).toInt := by rw [exv15]; exact RI.sp hI0 (k := 0) (g := 4) (by decide) (by omega) (by decide)
          refine lv_iconst (v := 4) hx hb dX12_stays_34 (by decide) ?_
          refine lv_iload_n hx hb dX12_stays_35 rfl (lv_at hl 2 rfl) ?_
          refine lv_iadd hx hb dX12_stays_36 ?_
          refine lv_topi (fun xv16 exv16 => ?_)
          try (have txv16 := addI (a := 4) (b := kz) (by omega) (by omega); rw [← exv16] at txv16)
          refine lv_aload_n hx hb dX12_stays_37 rfl (lv_at hl 0 rfl) ?_
          refine rr_getA (k := 35) (j := 16) C hM f_X12_68 rfl rfl dX12_stays_38 ?_
          refine lv_iload_n hx hb dX12_stays_41 rfl (lv_at hl 2 rfl) ?_
          refine rr_ldI (j := 16) (k := 35) (n := 6) (v := rA R 35 kz.toNatClampNeg) C hM rfl rfl rfl (inI (by omega) (by show _ < (6 : Int); omega)) (congrFun (hF.gA 35 (by decide)) kz.toNatClampNeg) dX12_stays_42 ?_
          refine lv_topi (fun xv17 exv17 => ?_)
          have fpxv17 : 0 ≤ xv17.toInt ∧ xv17.toInt < (rA R 10 xv16.toNatClampNeg).toInt := by rw [exv17]; exact RI.sp hI0 (by omega) (by omega) (by omega)
          refine r_V (As := [.int 4, .int xv15, .int xv16, .int xv17]) (rest := [.int bz]) (ci := 12) C hM (c_X12_alike l D H0 h0 R kc ns 4 xv15 xv16 xv17 hI0 (by omega) (by omega) (by omega) (by omega) (by omega) (by omega) (by omega) (by omega)) i_X12_alike m_X12_272 rK0 rfl rfl rfl hl.1 rfl (Nat.le_of_ble_eq_true rfl) ⟨by decide, by decide⟩ ⟨by decide, by decide⟩ dX12_stays_43 (fun xv21 Sv18 kv19 nv20 H locs pv22 hM => ?_)
          obtain ⟨rfl, rfl, rfl, hxv21⟩ := pv22
          refine W.eq (g2 := F0 m 46 ls [.int xv21, .int bz]) rfl ?_
          refine lv_iand hx hb dX12_stays_46 ?_
          refine lv_topi (fun xv23 exv23 => ?_)
          refine lv_istore_n (lv' := [(1, .int xv23), (0, .ref h0), (2, .int kz)]) hx hb dX12_stays_47 rfl hl (by decide) rfl (fun ls hl => ?_)
          obtain ⟨xv24, exv24⟩ : ∃ y : Int32, y = kz + 1 := ⟨_, rfl⟩
          try (have txv24 := addI (a := kz) (b := 1) (by omega) (by omega); rw [← exv24] at txv24)
          refine lv_iinc (v := xv24) (lv' := [(2, .int xv24), (1, .int xv23), (0, .ref h0)]) hx hb dX12_stays_48 hl (k := 2) rfl (by rw [exv24]; rfl) (by decide) rfl (fun ls hl => ?_)
          refine lv_goto (tgt := 17) hx hb dX12_stays_51 (by decide) ?_
          exact ih17 xv24 xv23 _ _ _ (by omega) (by omega) (by omega) (lv_sub hl [2, 1, 0] rfl) hM
    exact loop17 (((6 - (1 : Int32).toInt).toNat) + 1) 1 0 _ _ _ (by omega) (by omega) (by omega) (lv_sub hl [2, 1, 0] rfl) hM
set_option maxHeartbeats 4000000 in
set_option maxRecDepth 100000 in
theorem c_X12_lookAtSamples (l : Launch) (D : gD) (H0 : gB) (h0 : Nat) (R : RS) (kc ns : Nat) (hI : RI R)  : Met l yX12_lookAtSamples (wsU yX12_lookAtSamples cX12_lookAtSamples 3 none) ({ frames := 4, cells := 0, slots := 0, locals := 97 } : Room) (mP D H0 (rM h0 R) kc ns [.ref h0]) (mQ D H0 gV (fun r S1 k1 n1 => kc = k1 ∧ ns = n1 ∧ ∃ R1, S1 = rM h0 R1 ∧ fr [37, 38] R R1 ∧ (0 ≤ (rI R1 38).toInt ∧ (rI R1 38).toInt ≤ 360))) 0 0 (mF H0) := by
  refine r_met (own := RX12) (by decide +kernel) rfl (Nat.le_of_ble_eq_true rfl) ?_
  intro p e s m args below meth c C hr hlk hnm H ls hl hM
  obtain ⟨hx, hb, hml, hown, hts, -, -⟩ := id C
  have hl : lv_has ls 3 [(0, .ref h0)] := hl
  have hF : fr [37, 38] R R := fr.rf
  have hI0 := hI
  have t_0 : (0 : Int32).toInt = 0 := by decide
  have t_1 : (1 : Int32).toInt = 1 := by decide
  have t_4 : (4 : Int32).toInt = 4 := by decide
  have fs := RI.samples hI
  refine lv_aload_n hx hb dX12_lookAtSamples_0 rfl (lv_at hl 0 rfl) ?_
  refine lv_iconst (v := 0) hx hb dX12_lookAtSamples_1 (by decide) ?_
  refine rr_putI (k := 38) (v := (0 : Int32)) C hM f_X12_278 rfl (fun r h => by cases h; rfl) rfl dX12_lookAtSamples_2 (fun H locs hM => ?_)
  have hM : mH D H0 (rM h0 (uI R 38 (0 : Int32))) kc ns H locs := hM
  have hF : fr [37, 38] R (uI R 38 (0 : Int32)) := hF.I (by decide)
  refine lv_iconst (v := 0) hx hb dX12_lookAtSamples_5 (by decide) ?_
  refine lv_istore_n (lv' := [(1, .int 0), (0, .ref h0)]) hx hb dX12_lookAtSamples_6 rfl hl (by decide) rfl (fun ls hl => ?_)
  have zv1 : (rI (uI R 38 (0 : Int32)) 38).toInt = (0 : Int32).toInt := rfl
  have loop7 : ∀ (fu : Nat) (kz : Int32) (Ra : RS) (H : Heap) (locs : List Loc) (ls : Array Slot), (fr [37, 38] R Ra) → (0 ≤ kz.toInt ∧ kz.toInt ≤ (rI R 36).toInt) → (0 ≤ (rI Ra 38).toInt ∧ (rI Ra 38).toInt ≤ 60 * kz.toInt) → (6 - kz.toInt).toNat < fu → lv_has ls 3 [(0, .ref h0), (1, .int kz)] → mH D H0 (rM h0 Ra) kc ns H locs → W p l e ({ frames := 4, cells := 0, slots := 0, locals := 97 } : Room) s m args below meth c H locs 0 0 (MQ below (mQ D H0 gV (fun r S1 k1 n1 => kc = k1 ∧ ns = n1 ∧ ∃ R1, S1 = rM h0 R1 ∧ fr [37, 38] R R1 ∧ (0 ≤ (rI R1 38).toInt ∧ (rI R1 38).toInt ≤ 360))) args s 0 0 (mF H0)) (F0 m 7 ls []) := by
    intro fu
    induction fu with
    | zero => intro kz Ra H locs ls h7_0 h7_1 h7_2 hfu; exact absurd hfu (by omega)
    | succ fu ih7 =>
      intro kz Ra H locs ls h7_0 h7_1 h7_2 hfu hl hM
      have hF := h7_0
      refine lv_iload_n hx hb dX12_lookAtSamples_7 rfl (lv_at hl 1 rfl) ?_
      refine lv_aload_n hx hb dX12_lookAtSamples_8 rfl (lv_at hl 0 rfl) ?_
      refine rr_getI (k := 36) (v := rI R 36) C hM f_X12_275 rfl (hF.gI 36 (by decide)) dX12_lookAtSamples_9 ?_
      refine lv_topi (fun xv2 exv2 => ?_)
      have mxv2 : xv2.toInt = (rI R 36).toInt := by rw [exv2]
      have fxv2 := RI.samples hI0; rw [← exv2] at fxv2
      refine lv_icmp_ge (tgt := 90) hx hb dX12_lookAtSamples_12 (by decide) (fun cv3 => ?_) (fun cv3 => ?_)
      · have tcv3 := leT cv3
        exact r_retV C hr hlk hM (⟨rfl, rfl, _, rfl, hF, by omega⟩) dX12_lookAtSamples_90
      · have tcv3 := leF cv3
        refine lv_iconst (v := 0) hx hb dX12_lookAtSamples_15 (by decide) ?_
        refine lv_istore_n (lv' := [(2, .int 0), (0, .ref h0), (1, .int kz)]) hx hb dX12_lookAtSamples_16 rfl hl (by decide) rfl (fun ls hl => ?_)
        have loop17 : ∀ (fu : Nat) (pz : Int32) (Rb : RS) (H : Heap) (locs : List Loc) (ls : Array Slot), (fr [37, 38] R Rb) → (0 ≤ pz.toInt ∧ pz.toInt ≤ 60) → (0 ≤ (rI Rb 38).toInt ∧ (rI Rb 38).toInt ≤ 60 * kz.toInt + pz.toInt) → (60 - pz.toInt).toNat < fu → lv_has ls 3 [(0, .ref h0), (1, .int kz), (2, .int pz)] → mH D H0 (rM h0 Rb) kc ns H locs → W p l e ({ frames := 4, cells := 0, slots := 0, locals := 97 } : Room) s m args below meth c H locs 0 0 (MQ below (mQ D H0 gV (fun r S1 k1 n1 => kc = k1 ∧ ns = n1 ∧ ∃ R1, S1 = rM h0 R1 ∧ fr [37, 38] R R1 ∧ (0 ≤ (rI R1 38).toInt ∧ (rI R1 38).toInt ≤ 360))) args s 0 0 (mF H0)) (F0 m 17 ls []) := by
          intro fu
          induction fu with
          | zero => intro pz Rb H locs ls h17_0 h17_1 h17_2 hfu; exact absurd hfu (by omega)
          | succ fu ih17 =>
            intro pz Rb H locs ls h17_0 h17_1 h17_2 hfu hl hM
            have hF := h17_0
            refine lv_iload_n hx hb dX12_lookAtSamples_17 rfl (lv_at hl 2 rfl) ?_
            refine lv_aload_n hx hb dX12_lookAtSamples_18 rfl (lv_at hl 0 rfl) ?_
            refine rr_getA (k := 10) (j := 2) C hM f_X12_20 rfl rfl dX12_lookAtSamples_19 ?_
            refine lv_iconst (v := 4) hx hb dX12_lookAtSamples_22 (by decide) ?_
            refine lv_iload_n hx hb dX12_lookAtSamples_23 rfl (lv_at hl 1 rfl) ?_
            refine lv_iadd hx hb dX12_lookAtSamples_24 ?_
            refine lv_topi (fun xv4 exv4 => ?_)
            try (have txv4 := addI (a := 4) (b := kz) (by omega) (by omega); rw [← exv4] at txv4)
            refine rr_ldI (j := 2) (k := 10) (n := 31) (v := rA R 10 xv4.toNatClampNeg) C hM rfl rfl rfl (inI (by omega) (by show _ < (31 : Int); omega)) (congrFun (hF.gA 10 (by decide)) xv4.toNatClampNeg) dX12_lookAtSamples_25 ?_
            refine lv_topi (fun xv5 exv5 => ?_)
            have mxv5 : xv5.toInt = (rA R 10 xv4.toNatClampNeg).toInt := by rw [exv5]
            have fxv5 := RI.many hI0 xv4.toNatClampNeg; rw [← exv5] at fxv5
            refine lv_icmp_ge (tgt := 84) hx hb dX12_lookAtSamples_26 (by decide) (fun cv6 => ?_) (fun cv6 => ?_)
            · have tcv6 := leT cv6
              obtain ⟨xv7, exv7⟩ : ∃ y : Int32, y = kz + 1 := ⟨_, rfl⟩
              try (have txv7 := addI (a := kz) (b := 1) (by omega) (by omega); rw [← exv7] at txv7)
              refine lv_iinc (v := xv7) (lv' := [(1, .int xv7), (0, .ref h0), (2, .int pz)]) hx hb dX12_lookAtSamples_84 hl (k := 1) rfl (by rw [exv7]; rfl) (by decide) rfl (fun ls hl => ?_)
              refine lv_goto (tgt := 7) hx hb dX12_lookAtSamples_87 (by decide) ?_
              exact ih7 xv7 Rb _ _ _ (hF) (by omega) (by omega) (by omega) (lv_sub hl [1, 0] rfl) hM
            · have tcv6 := leF cv6
              refine lv_iload_n hx hb dX12_lookAtSamples_29 rfl (lv_at hl 2 rfl) ?_
              refine lv_aload_n hx hb dX12_lookAtSamples_30 rfl (lv_at hl 0 rfl) ?_
              refine rr_getA (k := 35) (j := 16) C hM f_X12_68 rfl rfl dX12_lookAtSamples_31 ?_
              refine lv_iload_n hx hb dX12_lookAtSamples_34 rfl (lv_at hl 1 rfl) ?_
              refine rr_ldI (j := 16) (k := 35) (n := 6) (v := rA R 35 kz.toNatClampNeg) C hM rfl rfl rfl (inI (by omega) (by show _ < (6 : Int); omega)) (congrFun (hF.gA 35 (by decide)) kz.toNatClampNeg) dX12_lookAtSamples_35 ?_
              refine lv_topi (fun xv8 exv8 => ?_)
              have fpxv8 : 0 ≤ xv8.toInt ∧ xv8.toInt < (rA R 10 xv4.toNatClampNeg).toInt := by rw [exv8]; exact RI.sp hI0 (by omega) (by omega) (by omega)
              refine lv_icmp_ne (tgt := 42) hx hb dX12_lookAtSamples_36 (by decide) (fun cv9 => ?_) (fun cv9 => ?_)
              · have tcv9 := eqF cv9
                refine lv_aload_n hx hb dX12_lookAtSamples_42 rfl (lv_at hl 0 rfl) ?_
                refine rr_getA (k := 37) (j := 17) C hM f_X12_71 rfl rfl dX12_lookAtSamples_43 ?_
                refine lv_aload_n hx hb dX12_lookAtSamples_46 rfl (lv_at hl 0 rfl) ?_
                refine rr_getI (k := 38) (v := rI Rb 38) C hM f_X12_278 rfl rfl dX12_lookAtSamples_47 ?_
                refine lv_topi (fun xv10 exv10 => ?_)
                have mxv10 : xv10.toInt = (rI Rb 38).toInt := by rw [exv10]
                refine lv_aload_n hx hb dX12_lookAtSamples_50 rfl (lv_at hl 0 rfl) ?_
                refine lv_iconst (v := 4) hx hb dX12_lookAtSamples_51 (by decide) ?_
                refine lv_iload_n hx hb dX12_lookAtSamples_52 rfl (lv_at hl 1 rfl) ?_
                refine lv_iadd hx hb dX12_lookAtSamples_53 ?_
                rw [← exv4]
                refine lv_aload_n hx hb dX12_lookAtSamples_54 rfl (lv_at hl 0 rfl) ?_
                refine rr_getA (k := 35) (j := 16) C hM f_X12_68 rfl rfl dX12_lookAtSamples_55 ?_
                refine lv_iload_n hx hb dX12_lookAtSamples_58 rfl (lv_at hl 1 rfl) ?_
                refine rr_ldI (j := 16) (k := 35) (n := 6) (v := xv8) C hM rfl rfl rfl (inI (by omega) (by show _ < (6 : Int); omega)) ((congrFun (hF.gA 35 (by decide)) kz.toNatClampNeg).trans exv8.symm) dX12_lookAtSamples_59 ?_
                refine lv_iconst (v := 4) hx hb dX12_lookAtSamples_60 (by decide) ?_
                refine lv_iload_n hx hb dX12_lookAtSamples_61 rfl (lv_at hl 1 rfl) ?_
                refine lv_iadd hx hb dX12_lookAtSamples_62 ?_
                rw [← exv4]
                refine lv_iload_n hx hb dX12_lookAtSamples_63 rfl (lv_at hl 2 rfl) ?_
                refine r_V (As := [.int xv4, .int xv8, .int xv4, .int pz]) (rest := [.int xv10, .ref (h0 + 1 + 17)]) (ci := 12) C hM (c_X12_alike l D H0 h0 Rb kc ns xv4 xv8 xv4 pz (hI0.fr hF (by decide)) (by omega) (by omega) (by omega) (by rw [hF.gA 10 (by decide)]; omega) (by omega) (by omega) (by omega) (by rw [hF.gA 10 (by decide)]; omega)) i_X12_alike m_X12_272 rK0 rfl rfl rfl hl.1 rfl (Nat.le_of_ble_eq_true rfl) ⟨by decide, by decide⟩ ⟨by decide, by decide⟩ dX12_lookAtSamples_64 (fun xv14 Sv11 kv12 nv13 H locs pv15 hM => ?_)
                obtain ⟨rfl, rfl, rfl, hxv14⟩ := pv15
                refine W.eq (g2 := F0 m 67 ls [.int xv14, .int xv10, .ref (h0 + 1 + 17)]) rfl ?_
                refine rr_stI (j := 17) (k := 37) (n := 360) (i := xv10) (x := xv14) C hM rfl rfl rfl (inI (by omega) (by show _ < (360 : Int); omega)) dX12_lookAtSamples_67 (fun H locs hM => ?_)
                have hM : mH D H0 (rM h0 (uA Rb 37 xv10.toNatClampNeg xv14)) kc ns H locs := hM
                have hF : fr [37, 38] R (uA Rb 37 xv10.toNatClampNeg xv14) := hF.A (by decide)
                refine lv_aload_n hx hb dX12_lookAtSamples_68 rfl (lv_at hl 0 rfl) ?_
                refine lv_dup hx hb dX12_lookAtSamples_69 rfl ?_
                refine rr_getI (k := 38) (v := xv10) C hM f_X12_278 rfl (exv10.symm) dX12_lookAtSamples_70 ?_
                refine lv_iconst (v := 1) hx hb dX12_lookAtSamples_73 (by decide) ?_
                refine lv_iadd hx hb dX12_lookAtSamples_74 ?_
                refine lv_topi (fun xv16 exv16 => ?_)
                try (have txv16 := addI (a := xv10) (b := 1) (by omega) (by omega); rw [← exv16] at txv16)
                refine rr_putI (k := 38) (v := xv16) C hM f_X12_278 rfl (fun r h => by cases h; rfl) rfl dX12_lookAtSamples_75 (fun H locs hM => ?_)
                have hM : mH D H0 (rM h0 (uI (uA Rb 37 xv10.toNatClampNeg xv14) 38 xv16)) kc ns H locs := hM
                have hF : fr [37, 38] R (uI (uA Rb 37 xv10.toNatClampNeg xv14) 38 xv16) := hF.I (by decide)
                obtain ⟨xv17, exv17⟩ : ∃ y : Int32, y = pz + 1 := ⟨_, rfl⟩
                try (have txv17 := addI (a := pz) (b := 1) (by omega) (by omega); rw [← exv17] at txv17)
                refine lv_iinc (v := xv17) (lv' := [(2, .int xv17), (0, .ref h0), (1, .int kz)]) hx hb dX12_lookAtSamples_78 hl (k := 2) rfl (by rw [exv17]; rfl) (by decide) rfl (fun ls hl => ?_)
                refine lv_goto (tgt := 17) hx hb dX12_lookAtSamples_81 (by decide) ?_
                have zv18 : (rI (uI (uA Rb 37 xv10.toNatClampNeg xv14) 38 xv16) 38).toInt = xv16.toInt := rfl
                exact ih17 xv17 (uI (uA Rb 37 xv10.toNatClampNeg xv14) 38 xv16) _ _ _ (hF) (by omega) (by omega) (by omega) (lv_sub hl [1, 2, 0] rfl) hM
              · have tcv9 := eqT cv9
                refine lv_goto (tgt := 78) hx hb dX12_lookAtSamples_39 (by decide) ?_
                obtain ⟨xv19, exv19⟩ : ∃ y : Int32, y = pz + 1 := ⟨_, rfl⟩
                try (have txv19 := addI (a := pz) (b := 1) (by omega) (by omega); rw [← exv19] at txv19)
                refine lv_iinc (v := xv19) (lv' := [(2, .int xv19), (0, .ref h0), (1, .int kz)]) hx hb dX12_lookAtSamples_78 hl (k := 2) rfl (by rw [exv19]; rfl) (by decide) rfl (fun ls hl => ?_)
                refine lv_goto (tgt := 17) hx hb dX12_lookAtSamples_81 (by decide) ?_
                exact ih17 xv19 Rb _ _ _ (hF) (by omega) (by omega) (by omega) (lv_sub hl [1, 2, 0] rfl) hM
        exact loop17 (((60 - (0 : Int32).toInt).toNat) + 1) 0 Ra _ _ _ (hF) (by omega) (by omega) (by omega) (lv_sub hl [1, 2, 0] rfl) hM
  have zv20 : (rI (uI R 38 (0 : Int32)) 38).toInt = (0 : Int32).toInt := rfl
  exact loop7 (((6 - (0 : Int32).toInt).toNat) + 1) 0 (uI R 38 (0 : Int32)) _ _ _ (hF) (by omega) (by omega) (by omega) (lv_sub hl [1, 0] rfl) hM
set_option maxHeartbeats 4000000 in
set_option maxRecDepth 100000 in
theorem c_X12_tells (l : Launch) (D : gD) (H0 : gB) (h0 : Nat) (R : RS) (kc ns : Nat) (i0 : Int32) (hI : RI R) (a0 : 0 ≤ (rI R 38).toInt) (a1 : (rI R 38).toInt ≤ 360)  : Met l yX12_tells (wsU yX12_tells cX12_tells 3 (some .boolean)) ({ frames := 0, cells := 0, slots := 0, locals := 0 } : Room) (mP D H0 (rM h0 R) kc ns [.ref h0, .int i0]) (mQ D H0 gI (fun r S1 k1 n1 => rM h0 R = S1 ∧ kc = k1 ∧ ns = n1 ∧ (r = 0 ∨ r = 1))) 0 0 (mF H0) := by
  refine r_met (own := RX12) (by decide +kernel) rfl (Nat.le_of_ble_eq_true rfl) ?_
  intro p e s m args below meth c C hr hlk hnm H ls hl hM
  obtain ⟨hx, hb, hml, hown, hts, -, -⟩ := id C
  have hl : lv_has ls 3 [(0, .ref h0), (1, .int i0)] := hl
  have hF : fr [] R R := fr.rf
  have hI0 := hI
  have t_0 : (0 : Int32).toInt = 0 := by decide
  have t_1 : (1 : Int32).toInt = 1 := by decide
  refine lv_iconst (v := 0) hx hb dX12_tells_0 (by decide) ?_
  refine lv_istore_n (lv' := [(2, .int 0), (0, .ref h0), (1, .int i0)]) hx hb dX12_tells_1 rfl hl (by decide) rfl (fun ls hl => ?_)
  have loop2 : ∀ (fu : Nat) (kz : Int32) (H : Heap) (locs : List Loc) (ls : Array Slot), (0 ≤ kz.toInt) → (360 - kz.toInt).toNat < fu → lv_has ls 3 [(0, .ref h0), (1, .int i0), (2, .int kz)] → mH D H0 (rM h0 R) kc ns H locs → W p l e ({ frames := 0, cells := 0, slots := 0, locals := 0 } : Room) s m args below meth c H locs 0 0 (MQ below (mQ D H0 gI (fun r S1 k1 n1 => rM h0 R = S1 ∧ kc = k1 ∧ ns = n1 ∧ (r = 0 ∨ r = 1))) args s 0 0 (mF H0)) (F0 m 2 ls []) := by
    intro fu
    induction fu with
    | zero => intro kz H locs ls h2_0 hfu; exact absurd hfu (by omega)
    | succ fu ih2 =>
      intro kz H locs ls h2_0 hfu hl hM
      refine lv_iload_n hx hb dX12_tells_2 rfl (lv_at hl 2 rfl) ?_
      refine lv_aload_n hx hb dX12_tells_3 rfl (lv_at hl 0 rfl) ?_
      refine rr_getI (k := 38) (v := rI R 38) C hM f_X12_278 rfl (hF.gI 38 (by decide)) dX12_tells_4 ?_
      refine lv_topi (fun xv1 exv1 => ?_)
      have mxv1 : xv1.toInt = (rI R 38).toInt := by rw [exv1]
      refine lv_icmp_ge (tgt := 30) hx hb dX12_tells_7 (by decide) (fun cv2 => ?_) (fun cv2 => ?_)
      · have tcv2 := leT cv2
        refine lv_iconst (v := 1) hx hb dX12_tells_30 (by decide) ?_
        exact r_retZ C hr hlk rfl hM (⟨rfl, rfl, rfl, by decide⟩) dX12_tells_31
      · have tcv2 := leF cv2
        refine lv_aload_n hx hb dX12_tells_10 rfl (lv_at hl 0 rfl) ?_
        refine rr_getA (k := 37) (j := 17) C hM f_X12_71 rfl rfl dX12_tells_11 ?_
        refine lv_iload_n hx hb dX12_tells_14 rfl (lv_at hl 2 rfl) ?_
        refine rr_ldI (j := 17) (k := 37) (n := 360) (v := rA R 37 kz.toNatClampNeg) C hM rfl rfl rfl (inI (by omega) (by show _ < (360 : Int); omega)) (congrFun (hF.gA 37 (by decide)) kz.toNatClampNeg) dX12_tells_15 ?_
        refine lv_topi (fun xv3 exv3 => ?_)
        refine lv_iload_n hx hb dX12_tells_16 rfl (lv_at hl 1 rfl) ?_
        refine lv_iand hx hb dX12_tells_17 ?_
        refine lv_topi (fun xv4 exv4 => ?_)
        refine lv_iload_n hx hb dX12_tells_18 rfl (lv_at hl 1 rfl) ?_
        refine lv_icmp_ne (tgt := 24) hx hb dX12_tells_19 (by decide) (fun cv5 => ?_) (fun cv5 => ?_)
        · have tcv5 := eqF cv5
          obtain ⟨xv6, exv6⟩ : ∃ y : Int32, y = kz + 1 := ⟨_, rfl⟩
          try (have txv6 := addI (a := kz) (b := 1) (by omega) (by omega); rw [← exv6] at txv6)
          refine lv_iinc (v := xv6) (lv' := [(2, .int xv6), (0, .ref h0), (1, .int i0)]) hx hb dX12_tells_24 hl (k := 2) rfl (by rw [exv6]; rfl) (by decide) rfl (fun ls hl => ?_)
          refine lv_goto (tgt := 2) hx hb dX12_tells_27 (by decide) ?_
          exact ih2 xv6 _ _ _ (by omega) (by omega) (lv_sub hl [1, 2, 0] rfl) hM
        · have tcv5 := eqT cv5
          refine lv_iconst (v := 0) hx hb dX12_tells_22 (by decide) ?_
          exact r_retZ C hr hlk rfl hM (⟨rfl, rfl, rfl, by decide⟩) dX12_tells_23
  exact loop2 (((360 - (0 : Int32).toInt).toNat) + 1) 0 _ _ _ (by omega) (by omega) (lv_sub hl [1, 2, 0] rfl) hM
set_option maxHeartbeats 4000000 in
set_option maxRecDepth 100000 in
theorem c_X12_learnt (l : Launch) (D : gD) (H0 : gB) (h0 : Nat) (R : RS) (kc ns : Nat) (hI : RI R)  : Met l yX12_learnt (wsU yX12_learnt cX12_learnt 4 (some .int)) ({ frames := 5, cells := 0, slots := 0, locals := 119 } : Room) (mP D H0 (rM h0 R) kc ns [.ref h0]) (mQ D H0 gI (fun r S1 k1 n1 => kc = k1 ∧ ns = n1 ∧ ∃ R1, S1 = rM h0 R1 ∧ fr [37, 38] R R1 ∧ ((rI R 36).toInt ≠ 0 ∨ r.toInt = -1))) 0 0 (mF H0) := by
  refine r_met (own := RX12) (by decide +kernel) rfl (Nat.le_of_ble_eq_true rfl) ?_
  intro p e s m args below meth c C hr hlk hnm H ls hl hM
  obtain ⟨hx, hb, hml, hown, hts, -, -⟩ := id C
  have hl : lv_has ls 4 [(0, .ref h0)] := hl
  have hF : fr [37, 38] R R := fr.rf
  have hI0 := hI
  have t_m1 : (-1 : Int32).toInt = -1 := by decide
  have t_0 : (0 : Int32).toInt = 0 := by decide
  have t_1 : (1 : Int32).toInt = 1 := by decide
  have t_8 : (8 : Int32).toInt = 8 := by decide
  have t_256 : (256 : Int32).toInt = 256 := by decide
  refine lv_aload_n hx hb dX12_learnt_0 rfl (lv_at hl 0 rfl) ?_
  refine r_V (As := []) (rest := []) (ci := 12) C hM (c_X12_stays l D H0 h0 R kc ns (hI0.fr hF (by decide))) i_X12_stays m_X12_281 rK0 rfl rfl rfl hl.1 rfl (Nat.le_of_ble_eq_true rfl) ⟨by decide, by decide⟩ ⟨by decide, by decide⟩ dX12_learnt_1 (fun xv4 Sv1 kv2 nv3 H locs pv5 hM => ?_)
  obtain ⟨rfl, rfl, rfl, hxv4⟩ := pv5
  refine W.eq (g2 := F0 m 4 ls [.int xv4]) rfl ?_
  refine lv_istore_n (lv' := [(1, .int xv4), (0, .ref h0)]) hx hb dX12_learnt_4 rfl hl (by decide) rfl (fun ls hl => ?_)
  refine lv_aload_n hx hb dX12_learnt_5 rfl (lv_at hl 1 rfl) ?_
  refine r_V (As := []) (rest := []) (ci := 12) C hM (c_X12_lookAtSamples l D H0 h0 R kc ns (hI0.fr hF (by decide))) i_X12_lookAtSamples m_X12_285 rK0 rfl rfl rfl hl.1 rfl (Nat.le_of_ble_eq_true rfl) ⟨by decide, by decide⟩ ⟨by decide, by decide⟩ dX12_learnt_6 (fun uv9 Sv6 kv7 nv8 H locs pv10 hM => ?_)
  obtain ⟨rfl, rfl, Rv11, rfl, hf9, huv9⟩ := pv10
  have hF : fr [37, 38] R Rv11 := hF.trans hf9 (by decide)
  refine W.eq (g2 := F0 m 9 ls []) rfl ?_
  refine lv_iconst (v := 1) hx hb dX12_learnt_9 (by decide) ?_
  refine lv_istore_n (lv' := [(2, .int 1), (1, .int xv4), (0, .ref h0)]) hx hb dX12_learnt_10 rfl hl (by decide) rfl (fun ls hl => ?_)
  have loop11 : ∀ (fu : Nat) (nz : Int32) (H : Heap) (locs : List Loc) (ls : Array Slot), (1 ≤ nz.toInt ∧ nz.toInt ≤ 9) → (9 - nz.toInt).toNat < fu → lv_has ls 4 [(0, .ref h0), (1, .int xv4), (2, .int nz)] → mH D H0 (rM h0 Rv11) kc ns H locs → W p l e ({ frames := 5, cells := 0, slots := 0, locals := 119 } : Room) s m args below meth c H locs 0 0 (MQ below (mQ D H0 gI (fun r S1 k1 n1 => kc = k1 ∧ ns = n1 ∧ ∃ R1, S1 = rM h0 R1 ∧ fr [37, 38] R R1 ∧ ((rI R 36).toInt ≠ 0 ∨ r.toInt = -1))) args s 0 0 (mF H0)) (F0 m 11 ls []) := by
    intro fu
    induction fu with
    | zero => intro nz H locs ls h11_0 hfu; exact absurd hfu (by omega)
    | succ fu ih11 =>
      intro nz H locs ls h11_0 hfu hl hM
      refine lv_iload_n hx hb dX12_learnt_11 rfl (lv_at hl 2 rfl) ?_
      refine lv_bipush (v := 8) hx hb dX12_learnt_12 (by decide) ?_
      refine lv_icmp_gt (tgt := 63) hx hb dX12_learnt_14 (by decide) (fun cv12 => ?_) (fun cv12 => ?_)
      · have tcv12 := ltT cv12
        refine lv_iconst (v := -1) hx hb dX12_learnt_63 (by decide) ?_
        exact r_retI C hr hlk hM (⟨rfl, rfl, _, rfl, hF, by omega⟩) dX12_learnt_64
      · have tcv12 := ltF cv12
        refine lv_iconst (v := 1) hx hb dX12_learnt_17 (by decide) ?_
        refine lv_istore_n (lv' := [(3, .int 1), (0, .ref h0), (1, .int xv4), (2, .int nz)]) hx hb dX12_learnt_18 rfl hl (by decide) rfl (fun ls hl => ?_)
        have loop19 : ∀ (fu : Nat) (mz : Int32) (H : Heap) (locs : List Loc) (ls : Array Slot), (1 ≤ mz.toInt ∧ mz.toInt ≤ 256) → (256 - mz.toInt).toNat < fu → lv_has ls 4 [(0, .ref h0), (1, .int xv4), (2, .int nz), (3, .int mz)] → mH D H0 (rM h0 Rv11) kc ns H locs → W p l e ({ frames := 5, cells := 0, slots := 0, locals := 119 } : Room) s m args below meth c H locs 0 0 (MQ below (mQ D H0 gI (fun r S1 k1 n1 => kc = k1 ∧ ns = n1 ∧ ∃ R1, S1 = rM h0 R1 ∧ fr [37, 38] R R1 ∧ ((rI R 36).toInt ≠ 0 ∨ r.toInt = -1))) args s 0 0 (mF H0)) (F0 m 19 ls []) := by
          intro fu
          induction fu with
          | zero => intro mz H locs ls h19_0 hfu; exact absurd hfu (by omega)
          | succ fu ih19 =>
            intro mz H locs ls h19_0 hfu hl hM
            refine lv_iload_n hx hb dX12_learnt_19 rfl (lv_at hl 3 rfl) ?_
            refine lv_sipush (v := 256) hx hb dX12_learnt_20 (by decide) ?_
            refine lv_icmp_ge (tgt := 57) hx hb dX12_learnt_23 (by decide) (fun cv13 => ?_) (fun cv13 => ?_)
            · have tcv13 := leT cv13
              obtain ⟨xv14, exv14⟩ : ∃ y : Int32, y = nz + 1 := ⟨_, rfl⟩
              try (have txv14 := addI (a := nz) (b := 1) (by omega) (by omega); rw [← exv14] at txv14)
              refine lv_iinc (v := xv14) (lv' := [(2, .int xv14), (0, .ref h0), (1, .int xv4), (3, .int mz)]) hx hb dX12_learnt_57 hl (k := 2) rfl (by rw [exv14]; rfl) (by decide) rfl (fun ls hl => ?_)
              refine lv_goto (tgt := 11) hx hb dX12_learnt_60 (by decide) ?_
              exact ih11 xv14 _ _ _ (by omega) (by omega) (lv_sub hl [1, 2, 0] rfl) hM
            · have tcv13 := leF cv13
              refine lv_iload_n hx hb dX12_learnt_26 rfl (lv_at hl 3 rfl) ?_
              refine r_S (As := [.int mz]) (rest := []) C hM (c_X12_bitsOf l D H0 (rM h0 Rv11) kc ns mz) i_X12_bitsOf m_X12_288 rfl hl.1 rfl (Nat.le_of_ble_eq_true rfl) ⟨by decide, by decide⟩ ⟨by decide, by decide⟩ dX12_learnt_27 (fun xv18 Sv15 kv16 nv17 H locs pv19 hM => ?_)
              obtain ⟨rfl, rfl, rfl, hxv18⟩ := pv19
              refine W.eq (g2 := F0 m 30 ls [.int xv18]) rfl ?_
              refine lv_iload_n hx hb dX12_learnt_30 rfl (lv_at hl 2 rfl) ?_
              refine lv_icmp_ne (tgt := 51) hx hb dX12_learnt_31 (by decide) (fun cv20 => ?_) (fun cv20 => ?_)
              · have tcv20 := eqF cv20
                obtain ⟨xv21, exv21⟩ : ∃ y : Int32, y = mz + 1 := ⟨_, rfl⟩
                try (have txv21 := addI (a := mz) (b := 1) (by omega) (by omega); rw [← exv21] at txv21)
                refine lv_iinc (v := xv21) (lv' := [(3, .int xv21), (0, .ref h0), (1, .int xv4), (2, .int nz)]) hx hb dX12_learnt_51 hl (k := 3) rfl (by rw [exv21]; rfl) (by decide) rfl (fun ls hl => ?_)
                refine lv_goto (tgt := 19) hx hb dX12_learnt_54 (by decide) ?_
                exact ih19 xv21 _ _ _ (by omega) (by omega) (lv_sub hl [1, 2, 3, 0] rfl) hM
              · have tcv20 := eqT cv20
                refine lv_iload_n hx hb dX12_learnt_34 rfl (lv_at hl 3 rfl) ?_
                refine lv_iload_n hx hb dX12_learnt_35 rfl (lv_at hl 1 rfl) ?_
                refine lv_iand hx hb dX12_learnt_36 ?_
                refine lv_topi (fun xv22 exv22 => ?_)
                have haxv22 := and0i exv22
                refine lv_iload_n hx hb dX12_learnt_37 rfl (lv_at hl 3 rfl) ?_
                refine lv_icmp_ne (tgt := 51) hx hb dX12_learnt_38 (by decide) (fun cv23 => ?_) (fun cv23 => ?_)
                · have tcv23 := eqF cv23
                  obtain ⟨xv24, exv24⟩ : ∃ y : Int32, y = mz + 1 := ⟨_, rfl⟩
                  try (have txv24 := addI (a := mz) (b := 1) (by omega) (by omega); rw [← exv24] at txv24)
                  refine lv_iinc (v := xv24) (lv' := [(3, .int xv24), (0, .ref h0), (1, .int xv4), (2, .int nz)]) hx hb dX12_learnt_51 hl (k := 3) rfl (by rw [exv24]; rfl) (by decide) rfl (fun ls hl => ?_)
                  refine lv_goto (tgt := 19) hx hb dX12_learnt_54 (by decide) ?_
                  exact ih19 xv24 _ _ _ (by omega) (by omega) (lv_sub hl [1, 2, 3, 0] rfl) hM
                · have tcv23 := eqT cv23
                  refine lv_aload_n hx hb dX12_learnt_41 rfl (lv_at hl 0 rfl) ?_
                  refine lv_iload_n hx hb dX12_learnt_42 rfl (lv_at hl 3 rfl) ?_
                  refine r_V (As := [.int mz]) (rest := []) (ci := 12) C hM (c_X12_tells l D H0 h0 Rv11 kc ns mz (hI0.fr hF (by decide)) (by omega) (by omega)) i_X12_tells m_X12_291 rK0 rfl rfl rfl hl.1 rfl (Nat.le_of_ble_eq_true rfl) ⟨by decide, by decide⟩ ⟨by decide, by decide⟩ dX12_learnt_43 (fun xv28 Sv25 kv26 nv27 H locs pv29 hM => ?_)
                  obtain ⟨rfl, rfl, rfl, hxv28⟩ := pv29
                  refine W.eq (g2 := F0 m 46 ls [.int xv28]) rfl ?_
                  refine lv_if_eq (tgt := 51) hx hb dX12_learnt_46 (by decide) (fun cv30 => ?_) (fun cv30 => ?_)
                  · have tcv30 := eqT cv30
                    obtain ⟨xv31, exv31⟩ : ∃ y : Int32, y = mz + 1 := ⟨_, rfl⟩
                    try (have txv31 := addI (a := mz) (b := 1) (by omega) (by omega); rw [← exv31] at txv31)
                    refine lv_iinc (v := xv31) (lv' := [(3, .int xv31), (0, .ref h0), (1, .int xv4), (2, .int nz)]) hx hb dX12_learnt_51 hl (k := 3) rfl (by rw [exv31]; rfl) (by decide) rfl (fun ls hl => ?_)
                    refine lv_goto (tgt := 19) hx hb dX12_learnt_54 (by decide) ?_
                    exact ih19 xv31 _ _ _ (by omega) (by omega) (lv_sub hl [1, 2, 3, 0] rfl) hM
                  · have tcv30 := eqF cv30
                    refine lv_iload_n hx hb dX12_learnt_49 rfl (lv_at hl 3 rfl) ?_
                    exact r_retI C hr hlk hM (⟨rfl, rfl, _, rfl, hF, by omega⟩) dX12_learnt_50
        exact loop19 (((256 - (1 : Int32).toInt).toNat) + 1) 1 _ _ _ (by omega) (by omega) (lv_sub hl [1, 2, 3, 0] rfl) hM
  exact loop11 (((9 - (1 : Int32).toInt).toNat) + 1) 1 _ _ _ (by omega) (by omega) (lv_sub hl [2, 1, 0] rfl) hM
set_option maxHeartbeats 4000000 in
set_option maxRecDepth 100000 in
theorem c_X12_seen (l : Launch) (D : gD) (H0 : gB) (h0 : Nat) (R : RS) (kc ns : Nat) (i0 : Int32) (hI : RI R)  : Met l yX12_seen (wsU yX12_seen cX12_seen 5 (some .int)) ({ frames := 6, cells := 0, slots := 0, locals := 142 } : Room) (mP D H0 (rM h0 R) kc ns [.ref h0, .int i0]) (mQ D H0 gI (fun r S1 k1 n1 => kc = k1 ∧ ns = n1 ∧ ∃ R1, S1 = rM h0 R1 ∧ fr [37, 38] R R1 ∧ True)) 0 0 (mF H0) := by
  refine r_met (own := RX12) (by decide +kernel) rfl (Nat.le_of_ble_eq_true rfl) ?_
  intro p e s m args below meth c C hr hlk hnm H ls hl hM
  obtain ⟨hx, hb, hml, hown, hts, -, -⟩ := id C
  have hl : lv_has ls 5 [(0, .ref h0), (1, .int i0)] := hl
  have hF : fr [37, 38] R R := fr.rf
  have hI0 := hI
  have t_m3 : (-3 : Int32).toInt = -3 := by decide
  have t_m2 : (-2 : Int32).toInt = -2 := by decide
  have t_m1 : (-1 : Int32).toInt = -1 := by decide
  have t_0 : (0 : Int32).toInt = 0 := by decide
  have t_1 : (1 : Int32).toInt = 1 := by decide
  have t_4 : (4 : Int32).toInt = 4 := by decide
  have fs := RI.samples hI
  have fm0 := RI.many hI i0.toNatClampNeg
  refine lv_aload_n hx hb dX12_seen_0 rfl (lv_at hl 0 rfl) ?_
  refine r_V (As := []) (rest := []) (ci := 12) C hM (c_X12_learnt l D H0 h0 R kc ns (hI0.fr hF (by decide))) i_X12_learnt m_X12_294 rK0 rfl rfl rfl hl.1 rfl (Nat.le_of_ble_eq_true rfl) ⟨by decide, by decide⟩ ⟨by decide, by decide⟩ dX12_seen_1 (fun xv4 Sv1 kv2 nv3 H locs pv5 hM => ?_)
  obtain ⟨rfl, rfl, Rv6, rfl, hf9, hxv4⟩ := pv5
  have hF : fr [37, 38] R Rv6 := hF.trans hf9 (by decide)
  refine W.eq (g2 := F0 m 4 ls [.int xv4]) rfl ?_
  refine lv_istore_n (lv' := [(2, .int xv4), (0, .ref h0), (1, .int i0)]) hx hb dX12_seen_4 rfl hl (by decide) rfl (fun ls hl => ?_)
  refine lv_iload_n hx hb dX12_seen_5 rfl (lv_at hl 0 rfl) ?_
  refine lv_if_lt (tgt := 17) hx hb dX12_seen_6 (by decide) (fun cv7 => ?_) (fun cv7 => ?_)
  · have tcv7 := ltT cv7
    refine lv_iconst (v := -1) hx hb dX12_seen_17 (by decide) ?_
    exact r_retI C hr hlk hM (⟨rfl, rfl, _, rfl, hF, trivial⟩) dX12_seen_18
  · have tcv7 := ltF cv7
    refine lv_aload_n hx hb dX12_seen_9 rfl (lv_at hl 1 rfl) ?_
    refine lv_iload_n hx hb dX12_seen_10 rfl (lv_at hl 2 rfl) ?_
    refine r_V (As := [.int i0]) (rest := []) (ci := 12) C hM (c_X12_hasPage l D H0 h0 Rv6 kc ns i0 (hI0.fr hF (by decide))) i_X12_hasPage m_X12_235 rK0 rfl rfl rfl hl.1 rfl (Nat.le_of_ble_eq_true rfl) ⟨by decide, by decide⟩ ⟨by decide, by decide⟩ dX12_seen_11 (fun xv11 Sv8 kv9 nv10 H locs pv12 hM => ?_)
    obtain ⟨rfl, rfl, rfl, hxv11⟩ := pv12
    refine W.eq (g2 := F0 m 14 ls [.int xv11]) rfl ?_
    refine lv_if_ne (tgt := 19) hx hb dX12_seen_14 (by decide) (fun cv13 => ?_) (fun cv13 => ?_)
    · have tcv13 := eqF cv13
      refine lv_bipush (v := -3) hx hb dX12_seen_19 (by decide) ?_
      refine lv_istore_n (lv' := [(3, .int (-3)), (2, .int xv4), (0, .ref h0), (1, .int i0)]) hx hb dX12_seen_21 rfl hl (by decide) rfl (fun ls hl => ?_)
      refine lv_iconst (v := 0) hx hb dX12_seen_22 (by decide) ?_
      refine lv_istore (lv' := [(4, .int 0), (3, .int (-3)), (2, .int xv4), (0, .ref h0), (1, .int i0)]) hx hb dX12_seen_23 hl (by decide) rfl (fun ls hl => ?_)
      have loop25 : ∀ (fu : Nat) (bz : Int32) (fz : Int32) (H : Heap) (locs : List Loc) (ls : Array Slot), (0 ≤ bz.toInt) → (60 - bz.toInt).toNat < fu → lv_has ls 5 [(0, .ref h0), (1, .int i0), (2, .int xv4), (3, .int fz), (4, .int bz)] → mH D H0 (rM h0 Rv6) kc ns H locs → W p l e ({ frames := 6, cells := 0, slots := 0, locals := 142 } : Room) s m args below meth c H locs 0 0 (MQ below (mQ D H0 gI (fun r S1 k1 n1 => kc = k1 ∧ ns = n1 ∧ ∃ R1, S1 = rM h0 R1 ∧ fr [37, 38] R R1 ∧ True)) args s 0 0 (mF H0)) (F0 m 25 ls []) := by
        intro fu
        induction fu with
        | zero => intro bz fz H locs ls h25_0 hfu; exact absurd hfu (by omega)
        | succ fu ih25 =>
          intro bz fz H locs ls h25_0 hfu hl hM
          refine lv_iload hx hb dX12_seen_25 (lv_at hl 4 rfl) ?_
          refine lv_aload_n hx hb dX12_seen_27 rfl (lv_at hl 0 rfl) ?_
          refine rr_getA (k := 10) (j := 2) C hM f_X12_20 rfl rfl dX12_seen_28 ?_
          refine lv_iload_n hx hb dX12_seen_31 rfl (lv_at hl 1 rfl) ?_
          refine rr_ldI (j := 2) (k := 10) (n := 31) (v := rA R 10 i0.toNatClampNeg) C hM rfl rfl rfl (inI (by omega) (by show _ < (31 : Int); omega)) (congrFun (hF.gA 10 (by decide)) i0.toNatClampNeg) dX12_seen_32 ?_
          refine lv_topi (fun xv14 exv14 => ?_)
          have mxv14 : xv14.toInt = (rA R 10 i0.toNatClampNeg).toInt := by rw [exv14]
          have fxv14 := RI.many hI0 i0.toNatClampNeg; rw [← exv14] at fxv14
          refine lv_icmp_ge (tgt := 76) hx hb dX12_seen_33 (by decide) (fun cv15 => ?_) (fun cv15 => ?_)
          · have tcv15 := leT cv15
            refine lv_iload_n hx hb dX12_seen_76 rfl (lv_at hl 3 rfl) ?_
            exact r_retI C hr hlk hM (⟨rfl, rfl, _, rfl, hF, trivial⟩) dX12_seen_77
          · have tcv15 := leF cv15
            refine lv_aload_n hx hb dX12_seen_36 rfl (lv_at hl 0 rfl) ?_
            refine lv_iconst (v := 4) hx hb dX12_seen_37 (by decide) ?_
            refine lv_aload_n hx hb dX12_seen_38 rfl (lv_at hl 0 rfl) ?_
            refine rr_getA (k := 35) (j := 16) C hM f_X12_68 rfl rfl dX12_seen_39 ?_
            refine lv_iconst (v := 0) hx hb dX12_seen_42 (by decide) ?_
            refine rr_ldI (j := 16) (k := 35) (n := 6) (v := rA R 35 0) C hM rfl rfl rfl (inI (by omega) (by show _ < (6 : Int); omega)) (congrFun (hF.gA 35 (by decide)) 0) dX12_seen_43 ?_
            refine lv_topi (fun xv16 exv16 => ?_)
            have fpxv16 : 0 ≤ xv16.toInt ∧ xv16.toInt < (rA R 10 (4 : Int32).toNatClampNeg).toInt := by rw [exv16]; exact RI.sp hI0 (k := 0) (g := 4) (by decide) (by omega) (by decide)
            refine lv_iload_n hx hb dX12_seen_44 rfl (lv_at hl 1 rfl) ?_
            refine lv_iload hx hb dX12_seen_45 (lv_at hl 4 rfl) ?_
            refine r_V (As := [.int 4, .int xv16, .int i0, .int bz]) (rest := []) (ci := 12) C hM (c_X12_alike l D H0 h0 Rv6 kc ns 4 xv16 i0 bz (hI0.fr hF (by decide)) (by omega) (by omega) (by omega) (by rw [hF.gA 10 (by decide)]; omega) (by omega) (by omega) (by omega) (by rw [hF.gA 10 (by decide)]; omega)) i_X12_alike m_X12_272 rK0 rfl rfl rfl hl.1 rfl (Nat.le_of_ble_eq_true rfl) ⟨by decide, by decide⟩ ⟨by decide, by decide⟩ dX12_seen_47 (fun xv20 Sv17 kv18 nv19 H locs pv21 hM => ?_)
            obtain ⟨rfl, rfl, rfl, hxv20⟩ := pv21
            refine W.eq (g2 := F0 m 50 ls [.int xv20]) rfl ?_
            refine lv_iload_n hx hb dX12_seen_50 rfl (lv_at hl 2 rfl) ?_
            refine lv_iand hx hb dX12_seen_51 ?_
            refine lv_topi (fun xv22 exv22 => ?_)
            refine lv_iload_n hx hb dX12_seen_52 rfl (lv_at hl 2 rfl) ?_
            refine lv_icmp_ne (tgt := 70) hx hb dX12_seen_53 (by decide) (fun cv23 => ?_) (fun cv23 => ?_)
            · have tcv23 := eqF cv23
              obtain ⟨xv24, exv24⟩ : ∃ y : Int32, y = bz + 1 := ⟨_, rfl⟩
              try (have txv24 := addI (a := bz) (b := 1) (by omega) (by omega); rw [← exv24] at txv24)
              refine lv_iinc (v := xv24) (lv' := [(4, .int xv24), (0, .ref h0), (1, .int i0), (2, .int xv4), (3, .int fz)]) hx hb dX12_seen_70 hl (k := 4) rfl (by rw [exv24]; rfl) (by decide) rfl (fun ls hl => ?_)
              refine lv_goto (tgt := 25) hx hb dX12_seen_73 (by decide) ?_
              exact ih25 xv24 fz _ _ _ (by omega) (by omega) (lv_sub hl [1, 2, 3, 4, 0] rfl) hM
            · have tcv23 := eqT cv23
              refine lv_iload_n hx hb dX12_seen_56 rfl (lv_at hl 3 rfl) ?_
              refine lv_bipush (v := -3) hx hb dX12_seen_57 (by decide) ?_
              refine lv_icmp_ne (tgt := 67) hx hb dX12_seen_59 (by decide) (fun cv25 => ?_) (fun cv25 => ?_)
              · have tcv25 := eqF cv25
                refine lv_bipush (v := -2) hx hb dX12_seen_67 (by decide) ?_
                refine lv_istore_n (lv' := [(3, .int (-2)), (0, .ref h0), (1, .int i0), (2, .int xv4), (4, .int bz)]) hx hb dX12_seen_69 rfl hl (by decide) rfl (fun ls hl => ?_)
                obtain ⟨xv26, exv26⟩ : ∃ y : Int32, y = bz + 1 := ⟨_, rfl⟩
                try (have txv26 := addI (a := bz) (b := 1) (by omega) (by omega); rw [← exv26] at txv26)
                refine lv_iinc (v := xv26) (lv' := [(4, .int xv26), (3, .int (-2)), (0, .ref h0), (1, .int i0), (2, .int xv4)]) hx hb dX12_seen_70 hl (k := 4) rfl (by rw [exv26]; rfl) (by decide) rfl (fun ls hl => ?_)
                refine lv_goto (tgt := 25) hx hb dX12_seen_73 (by decide) ?_
                exact ih25 xv26 (-2) _ _ _ (by omega) (by omega) (lv_sub hl [2, 3, 4, 1, 0] rfl) hM
              · have tcv25 := eqT cv25
                refine lv_iload hx hb dX12_seen_62 (lv_at hl 4 rfl) ?_
                refine lv_goto (tgt := 69) hx hb dX12_seen_64 (by decide) ?_
                refine lv_istore_n (lv' := [(3, .int bz), (0, .ref h0), (1, .int i0), (2, .int xv4), (4, .int bz)]) hx hb dX12_seen_69 rfl hl (by decide) rfl (fun ls hl => ?_)
                obtain ⟨xv27, exv27⟩ : ∃ y : Int32, y = bz + 1 := ⟨_, rfl⟩
                try (have txv27 := addI (a := bz) (b := 1) (by omega) (by omega); rw [← exv27] at txv27)
                refine lv_iinc (v := xv27) (lv' := [(4, .int xv27), (3, .int bz), (0, .ref h0), (1, .int i0), (2, .int xv4)]) hx hb dX12_seen_70 hl (k := 4) rfl (by rw [exv27]; rfl) (by decide) rfl (fun ls hl => ?_)
                refine lv_goto (tgt := 25) hx hb dX12_seen_73 (by decide) ?_
                exact ih25 xv27 bz _ _ _ (by omega) (by omega) (lv_sub hl [2, 3, 4, 1, 0] rfl) hM
      exact loop25 (((60 - (0 : Int32).toInt).toNat) + 1) 0 (-3) _ _ _ (by omega) (by omega) (lv_sub hl [3, 4, 2, 1, 0] rfl) hM
    · have tcv13 := eqT cv13
      refine lv_iconst (v := -1) hx hb dX12_seen_17 (by decide) ?_
      exact r_retI C hr hlk hM (⟨rfl, rfl, _, rfl, hF, trivial⟩) dX12_seen_18
